/-! CONSTRUCTORS: each of the thirteen -/
theorem dX8_init_0 : decode cX8_init 0 = .ok (.aload_n 0, 1) := by decide +kernel
theorem dX8_init_1 : decode cX8_init 1 = .ok (.invokespecial 3, 3) := by decide +kernel
theorem dX8_init_4 : decode cX8_init 4 = .ok (.aload_n 0, 1) := by decide +kernel
theorem dX8_init_5 : decode cX8_init 5 = .ok (.bipush 8, 2) := by decide +kernel
theorem dX8_init_7 : decode cX8_init 7 = .ok (.newarray .int, 2) := by decide +kernel
theorem dX8_init_9 : decode cX8_init 9 = .ok (.putfield 9, 3) := by decide +kernel
theorem dX8_init_12 : decode cX8_init 12 = .ok (.aload_n 0, 1) := by decide +kernel
theorem dX8_init_13 : decode cX8_init 13 = .ok (.bipush 8, 2) := by decide +kernel
theorem dX8_init_15 : decode cX8_init 15 = .ok (.newarray .int, 2) := by decide +kernel
theorem dX8_init_17 : decode cX8_init 17 = .ok (.putfield 15, 3) := by decide +kernel
theorem dX8_init_20 : decode cX8_init 20 = .ok (.aload_n 0, 1) := by decide +kernel
theorem dX8_init_21 : decode cX8_init 21 = .ok (.bipush 8, 2) := by decide +kernel
theorem dX8_init_23 : decode cX8_init 23 = .ok (.newarray .int, 2) := by decide +kernel
theorem dX8_init_25 : decode cX8_init 25 = .ok (.putfield 18, 3) := by decide +kernel
theorem dX8_init_28 : decode cX8_init 28 = .ok (.aload_n 0, 1) := by decide +kernel
theorem dX8_init_29 : decode cX8_init 29 = .ok (.bipush 8, 2) := by decide +kernel
theorem dX8_init_31 : decode cX8_init 31 = .ok (.newarray .int, 2) := by decide +kernel
theorem dX8_init_33 : decode cX8_init 33 = .ok (.putfield 21, 3) := by decide +kernel
theorem dX8_init_36 : decode cX8_init 36 = .ok (.return_, 1) := by decide +kernel
abbrev S8 : Type := Nat × Nat × Nat × Nat
def w8 (c3 : yI3) (h : Nat) (u : S8) : va_W := ((h, .inr (8, [.int 0, .ref (u.1), .ref (u.2.1), .ref (u.2.2.1), .ref (u.2.2.2)])) :: (((([] ++ yZ c3.1 (u.1) 8) ++ yZ c3.1 (u.2.1) 8) ++ yZ c3.1 (u.2.2.1) 8) ++ yZ c3.1 (u.2.2.2) 8))
theorem yw8 : yWd yX8_init cX8_init 1 := ⟨(List.mem_of_getElem? (i := 58) (by decide +kernel)), (List.mem_of_getElem? (i := 57) (by decide +kernel)), (List.mem_of_getElem? (i := 39) (by decide +kernel)), rfl, by decide, by decide, by decide +kernel⟩
set_option maxHeartbeats 4000000 in
set_option maxRecDepth 100000 in
theorem yk8 (l : Launch) : yMk l yX8_init cX8_init 1 8 [.int 0, .null, .null, .null, .null] w8 1 4 32 := by
  refine yMk.of (by decide +kernel) rfl (by decide) ?_
  intro p e s m below meth c D c3 h A Q ls C hin hA hP hD hS hl kk
  have hown : s.vm.findClass RX8 = some m.cls := C.2.2.2.1
  have hx := C.1
  have hb := C.2.1
  have hml := C.2.2.1
  have hts := C.2.2.2.2.1
  have hK := C.2.2.2.2.2.1
  have hP : va_P D vwCl ((h, .inr (8, [.int 0, .null, .null, .null, .null])) :: []) s.heap := hP
  have hD : va_D A ((h, .inr (8, [.int 0, .null, .null, .null, .null])) :: []) := hD
  refine lv_aload_n hx hb dX8_init_0 rfl (lv_at hl 0 rfl) ?_
  refine W.objInit hx hb hown (hts (Cond.methodLink RX8 3 objectInit) (List.mem_of_getElem? (i := 59) (by decide +kernel))) (hts (Cond.instanceMethod objectInit) (List.mem_of_getElem? (i := 10) (by decide +kernel))) (hts _ (List.mem_of_getElem? (i := 11) (by decide +kernel))) rfl (by rw [hml]; exact hl.1) rfl dX8_init_1 (Nat.le_of_ble_eq_true rfl) (Nat.le_of_ble_eq_true rfl) ?_
  refine W.eq (g2 := F0 m 4 ls []) rfl ?_
  refine lv_aload_n hx hb dX8_init_4 rfl (lv_at hl 0 rfl) ?_
  refine lv_bipush (v := 8) hx hb dX8_init_5 (by decide) ?_
  refine y_newi C hP hD hS hA 8 (by decide) (by decide) (Nat.le_of_ble_eq_true rfl) (Nat.le_of_ble_eq_true rfl) (Nat.le_of_ble_eq_true rfl) dX8_init_7 (fun q1 H hP hD hS => ?_)
  have hP : va_P D vwCl ((h, .inr (8, [.int 0, .null, .null, .null, .null])) :: ([] ++ yZ c3.1 q1 8)) H := hP
  have hD : va_D A ((h, .inr (8, [.int 0, .null, .null, .null, .null])) :: ([] ++ yZ c3.1 q1 8)) := hD
  refine va_putF (D := D) (ci := 8) (v := .ref q1) (ty := .array .int) (C := RX8) (T := TX8) (N := 5) hx hb hts inlX8 tyX8 tyX8_ok nmX8 hown hK hP hD hS 0 rfl rfl 1 (by decide) (hts (Cond.fieldLink RX8 9 "SevenUnsaid$Table" "weak" "[I") (List.mem_of_getElem? (i := 61) (by decide +kernel))) (fun _ h9 => h9) rfl hin rfl (by decide +kernel) rfl rfl (Nat.le_of_ble_eq_true rfl) dX8_init_9 (fun H locs hP hD hS => ?_)
  have hP : va_P D vwCl ((h, .inr (8, [.int 0, .ref q1, .null, .null, .null])) :: ([] ++ yZ c3.1 q1 8)) H := hP
  have hD : va_D A ((h, .inr (8, [.int 0, .ref q1, .null, .null, .null])) :: ([] ++ yZ c3.1 q1 8)) := hD
  refine lv_aload_n hx hb dX8_init_12 rfl (lv_at hl 0 rfl) ?_
  refine lv_bipush (v := 8) hx hb dX8_init_13 (by decide) ?_
  refine y_newi C hP hD hS hA 8 (by decide) (by decide) (Nat.le_of_ble_eq_true rfl) (Nat.le_of_ble_eq_true rfl) (Nat.le_of_ble_eq_true rfl) dX8_init_15 (fun q2 H hP hD hS => ?_)
  have hP : va_P D vwCl ((h, .inr (8, [.int 0, .ref q1, .null, .null, .null])) :: (([] ++ yZ c3.1 q1 8) ++ yZ c3.1 q2 8)) H := hP
  have hD : va_D A ((h, .inr (8, [.int 0, .ref q1, .null, .null, .null])) :: (([] ++ yZ c3.1 q1 8) ++ yZ c3.1 q2 8)) := hD
  refine va_putF (D := D) (ci := 8) (v := .ref q2) (ty := .array .int) (C := RX8) (T := TX8) (N := 5) hx hb hts inlX8 tyX8 tyX8_ok nmX8 hown hK hP hD hS 0 rfl rfl 2 (by decide) (hts (Cond.fieldLink RX8 15 "SevenUnsaid$Table" "glasses" "[I") (List.mem_of_getElem? (i := 62) (by decide +kernel))) (fun _ h9 => h9) rfl hin rfl (by decide +kernel) rfl rfl (Nat.le_of_ble_eq_true rfl) dX8_init_17 (fun H locs hP hD hS => ?_)
  have hP : va_P D vwCl ((h, .inr (8, [.int 0, .ref q1, .ref q2, .null, .null])) :: (([] ++ yZ c3.1 q1 8) ++ yZ c3.1 q2 8)) H := hP
  have hD : va_D A ((h, .inr (8, [.int 0, .ref q1, .ref q2, .null, .null])) :: (([] ++ yZ c3.1 q1 8) ++ yZ c3.1 q2 8)) := hD
  refine lv_aload_n hx hb dX8_init_20 rfl (lv_at hl 0 rfl) ?_
  refine lv_bipush (v := 8) hx hb dX8_init_21 (by decide) ?_
  refine y_newi C hP hD hS hA 8 (by decide) (by decide) (Nat.le_of_ble_eq_true rfl) (Nat.le_of_ble_eq_true rfl) (Nat.le_of_ble_eq_true rfl) dX8_init_23 (fun q3 H hP hD hS => ?_)
  have hP : va_P D vwCl ((h, .inr (8, [.int 0, .ref q1, .ref q2, .null, .null])) :: ((([] ++ yZ c3.1 q1 8) ++ yZ c3.1 q2 8) ++ yZ c3.1 q3 8)) H := hP
  have hD : va_D A ((h, .inr (8, [.int 0, .ref q1, .ref q2, .null, .null])) :: ((([] ++ yZ c3.1 q1 8) ++ yZ c3.1 q2 8) ++ yZ c3.1 q3 8)) := hD
  refine va_putF (D := D) (ci := 8) (v := .ref q3) (ty := .array .int) (C := RX8) (T := TX8) (N := 5) hx hb hts inlX8 tyX8 tyX8_ok nmX8 hown hK hP hD hS 0 rfl rfl 3 (by decide) (hts (Cond.fieldLink RX8 18 "SevenUnsaid$Table" "seat" "[I") (List.mem_of_getElem? (i := 63) (by decide +kernel))) (fun _ h9 => h9) rfl hin rfl (by decide +kernel) rfl rfl (Nat.le_of_ble_eq_true rfl) dX8_init_25 (fun H locs hP hD hS => ?_)
  have hP : va_P D vwCl ((h, .inr (8, [.int 0, .ref q1, .ref q2, .ref q3, .null])) :: ((([] ++ yZ c3.1 q1 8) ++ yZ c3.1 q2 8) ++ yZ c3.1 q3 8)) H := hP
  have hD : va_D A ((h, .inr (8, [.int 0, .ref q1, .ref q2, .ref q3, .null])) :: ((([] ++ yZ c3.1 q1 8) ++ yZ c3.1 q2 8) ++ yZ c3.1 q3 8)) := hD
  refine lv_aload_n hx hb dX8_init_28 rfl (lv_at hl 0 rfl) ?_
  refine lv_bipush (v := 8) hx hb dX8_init_29 (by decide) ?_
  refine y_newi C hP hD hS hA 8 (by decide) (by decide) (Nat.le_of_ble_eq_true rfl) (Nat.le_of_ble_eq_true rfl) (Nat.le_of_ble_eq_true rfl) dX8_init_31 (fun q4 H hP hD hS => ?_)
  have hP : va_P D vwCl ((h, .inr (8, [.int 0, .ref q1, .ref q2, .ref q3, .null])) :: (((([] ++ yZ c3.1 q1 8) ++ yZ c3.1 q2 8) ++ yZ c3.1 q3 8) ++ yZ c3.1 q4 8)) H := hP
  have hD : va_D A ((h, .inr (8, [.int 0, .ref q1, .ref q2, .ref q3, .null])) :: (((([] ++ yZ c3.1 q1 8) ++ yZ c3.1 q2 8) ++ yZ c3.1 q3 8) ++ yZ c3.1 q4 8)) := hD
  refine va_putF (D := D) (ci := 8) (v := .ref q4) (ty := .array .int) (C := RX8) (T := TX8) (N := 5) hx hb hts inlX8 tyX8 tyX8_ok nmX8 hown hK hP hD hS 0 rfl rfl 4 (by decide) (hts (Cond.fieldLink RX8 21 "SevenUnsaid$Table" "onSeat" "[I") (List.mem_of_getElem? (i := 64) (by decide +kernel))) (fun _ h9 => h9) rfl hin rfl (by decide +kernel) rfl rfl (Nat.le_of_ble_eq_true rfl) dX8_init_33 (fun H locs hP hD hS => ?_)
  have hP : va_P D vwCl ((h, .inr (8, [.int 0, .ref q1, .ref q2, .ref q3, .ref q4])) :: (((([] ++ yZ c3.1 q1 8) ++ yZ c3.1 q2 8) ++ yZ c3.1 q3 8) ++ yZ c3.1 q4 8)) H := hP
  have hD : va_D A ((h, .inr (8, [.int 0, .ref q1, .ref q2, .ref q3, .ref q4])) :: (((([] ++ yZ c3.1 q1 8) ++ yZ c3.1 q2 8) ++ yZ c3.1 q3 8) ++ yZ c3.1 q4 8)) := hD
  exact kk (q1, q2, q3, q4) _ _ _ _ dX8_init_36 hP hD hS
theorem dX6_init_0 : decode cX6_init 0 = .ok (.aload_n 0, 1) := by decide +kernel
theorem dX6_init_1 : decode cX6_init 1 = .ok (.invokespecial 3, 3) := by decide +kernel
theorem dX6_init_4 : decode cX6_init 4 = .ok (.aload_n 0, 1) := by decide +kernel
theorem dX6_init_5 : decode cX6_init 5 = .ok (.bipush 7, 2) := by decide +kernel
theorem dX6_init_7 : decode cX6_init 7 = .ok (.newarray .int, 2) := by decide +kernel
theorem dX6_init_9 : decode cX6_init 9 = .ok (.putfield 9, 3) := by decide +kernel
theorem dX6_init_12 : decode cX6_init 12 = .ok (.aload_n 0, 1) := by decide +kernel
theorem dX6_init_13 : decode cX6_init 13 = .ok (.bipush 7, 2) := by decide +kernel
theorem dX6_init_15 : decode cX6_init 15 = .ok (.newarray .int, 2) := by decide +kernel
theorem dX6_init_17 : decode cX6_init 17 = .ok (.putfield 15, 3) := by decide +kernel
theorem dX6_init_20 : decode cX6_init 20 = .ok (.aload_n 0, 1) := by decide +kernel
theorem dX6_init_21 : decode cX6_init 21 = .ok (.bipush 7, 2) := by decide +kernel
theorem dX6_init_23 : decode cX6_init 23 = .ok (.newarray .int, 2) := by decide +kernel
theorem dX6_init_25 : decode cX6_init 25 = .ok (.putfield 18, 3) := by decide +kernel
theorem dX6_init_28 : decode cX6_init 28 = .ok (.return_, 1) := by decide +kernel
abbrev S6 : Type := Nat × Nat × Nat
def w6 (c3 : yI3) (h : Nat) (u : S6) : va_W := ((h, .inr (6, [.int 0, .ref (u.1), .ref (u.2.1), .ref (u.2.2), .int 0, .int 0, .int 0])) :: ((([] ++ yZ c3.1 (u.1) 7) ++ yZ c3.1 (u.2.1) 7) ++ yZ c3.1 (u.2.2) 7))
theorem yw6 : yWd yX6_init cX6_init 1 := ⟨(List.mem_of_getElem? (i := 66) (by decide +kernel)), (List.mem_of_getElem? (i := 65) (by decide +kernel)), (List.mem_of_getElem? (i := 43) (by decide +kernel)), rfl, by decide, by decide, by decide +kernel⟩
set_option maxHeartbeats 4000000 in
set_option maxRecDepth 100000 in
theorem yk6 (l : Launch) : yMk l yX6_init cX6_init 1 6 [.int 0, .null, .null, .null, .int 0, .int 0, .int 0] w6 1 3 21 := by
  refine yMk.of (by decide +kernel) rfl (by decide) ?_
  intro p e s m below meth c D c3 h A Q ls C hin hA hP hD hS hl kk
  have hown : s.vm.findClass RX6 = some m.cls := C.2.2.2.1
  have hx := C.1
  have hb := C.2.1
  have hml := C.2.2.1
  have hts := C.2.2.2.2.1
  have hK := C.2.2.2.2.2.1
  have hP : va_P D vwCl ((h, .inr (6, [.int 0, .null, .null, .null, .int 0, .int 0, .int 0])) :: []) s.heap := hP
  have hD : va_D A ((h, .inr (6, [.int 0, .null, .null, .null, .int 0, .int 0, .int 0])) :: []) := hD
  refine lv_aload_n hx hb dX6_init_0 rfl (lv_at hl 0 rfl) ?_
  refine W.objInit hx hb hown (hts (Cond.methodLink RX6 3 objectInit) (List.mem_of_getElem? (i := 67) (by decide +kernel))) (hts (Cond.instanceMethod objectInit) (List.mem_of_getElem? (i := 10) (by decide +kernel))) (hts _ (List.mem_of_getElem? (i := 11) (by decide +kernel))) rfl (by rw [hml]; exact hl.1) rfl dX6_init_1 (Nat.le_of_ble_eq_true rfl) (Nat.le_of_ble_eq_true rfl) ?_
  refine W.eq (g2 := F0 m 4 ls []) rfl ?_
  refine lv_aload_n hx hb dX6_init_4 rfl (lv_at hl 0 rfl) ?_
  refine lv_bipush (v := 7) hx hb dX6_init_5 (by decide) ?_
  refine y_newi C hP hD hS hA 7 (by decide) (by decide) (Nat.le_of_ble_eq_true rfl) (Nat.le_of_ble_eq_true rfl) (Nat.le_of_ble_eq_true rfl) dX6_init_7 (fun q1 H hP hD hS => ?_)
  have hP : va_P D vwCl ((h, .inr (6, [.int 0, .null, .null, .null, .int 0, .int 0, .int 0])) :: ([] ++ yZ c3.1 q1 7)) H := hP
  have hD : va_D A ((h, .inr (6, [.int 0, .null, .null, .null, .int 0, .int 0, .int 0])) :: ([] ++ yZ c3.1 q1 7)) := hD
  refine va_putF (D := D) (ci := 6) (v := .ref q1) (ty := .array .int) (C := RX6) (T := TX6) (N := 7) hx hb hts inlX6 tyX6 tyX6_ok nmX6 hown hK hP hD hS 0 rfl rfl 1 (by decide) (hts (Cond.fieldLink RX6 9 "SevenUnsaid$Rules" "sort" "[I") (List.mem_of_getElem? (i := 68) (by decide +kernel))) (fun _ h9 => h9) rfl hin rfl (by decide +kernel) rfl rfl (Nat.le_of_ble_eq_true rfl) dX6_init_9 (fun H locs hP hD hS => ?_)
  have hP : va_P D vwCl ((h, .inr (6, [.int 0, .ref q1, .null, .null, .int 0, .int 0, .int 0])) :: ([] ++ yZ c3.1 q1 7)) H := hP
  have hD : va_D A ((h, .inr (6, [.int 0, .ref q1, .null, .null, .int 0, .int 0, .int 0])) :: ([] ++ yZ c3.1 q1 7)) := hD
  refine lv_aload_n hx hb dX6_init_12 rfl (lv_at hl 0 rfl) ?_
  refine lv_bipush (v := 7) hx hb dX6_init_13 (by decide) ?_
  refine y_newi C hP hD hS hA 7 (by decide) (by decide) (Nat.le_of_ble_eq_true rfl) (Nat.le_of_ble_eq_true rfl) (Nat.le_of_ble_eq_true rfl) dX6_init_15 (fun q2 H hP hD hS => ?_)
  have hP : va_P D vwCl ((h, .inr (6, [.int 0, .ref q1, .null, .null, .int 0, .int 0, .int 0])) :: (([] ++ yZ c3.1 q1 7) ++ yZ c3.1 q2 7)) H := hP
  have hD : va_D A ((h, .inr (6, [.int 0, .ref q1, .null, .null, .int 0, .int 0, .int 0])) :: (([] ++ yZ c3.1 q1 7) ++ yZ c3.1 q2 7)) := hD
  refine va_putF (D := D) (ci := 6) (v := .ref q2) (ty := .array .int) (C := RX6) (T := TX6) (N := 7) hx hb hts inlX6 tyX6 tyX6_ok nmX6 hown hK hP hD hS 0 rfl rfl 2 (by decide) (hts (Cond.fieldLink RX6 15 "SevenUnsaid$Rules" "number" "[I") (List.mem_of_getElem? (i := 69) (by decide +kernel))) (fun _ h9 => h9) rfl hin rfl (by decide +kernel) rfl rfl (Nat.le_of_ble_eq_true rfl) dX6_init_17 (fun H locs hP hD hS => ?_)
  have hP : va_P D vwCl ((h, .inr (6, [.int 0, .ref q1, .ref q2, .null, .int 0, .int 0, .int 0])) :: (([] ++ yZ c3.1 q1 7) ++ yZ c3.1 q2 7)) H := hP
  have hD : va_D A ((h, .inr (6, [.int 0, .ref q1, .ref q2, .null, .int 0, .int 0, .int 0])) :: (([] ++ yZ c3.1 q1 7) ++ yZ c3.1 q2 7)) := hD
  refine lv_aload_n hx hb dX6_init_20 rfl (lv_at hl 0 rfl) ?_
  refine lv_bipush (v := 7) hx hb dX6_init_21 (by decide) ?_
  refine y_newi C hP hD hS hA 7 (by decide) (by decide) (Nat.le_of_ble_eq_true rfl) (Nat.le_of_ble_eq_true rfl) (Nat.le_of_ble_eq_true rfl) dX6_init_23 (fun q3 H hP hD hS => ?_)
  have hP : va_P D vwCl ((h, .inr (6, [.int 0, .ref q1, .ref q2, .null, .int 0, .int 0, .int 0])) :: ((([] ++ yZ c3.1 q1 7) ++ yZ c3.1 q2 7) ++ yZ c3.1 q3 7)) H := hP
  have hD : va_D A ((h, .inr (6, [.int 0, .ref q1, .ref q2, .null, .int 0, .int 0, .int 0])) :: ((([] ++ yZ c3.1 q1 7) ++ yZ c3.1 q2 7) ++ yZ c3.1 q3 7)) := hD
  refine va_putF (D := D) (ci := 6) (v := .ref q3) (ty := .array .int) (C := RX6) (T := TX6) (N := 7) hx hb hts inlX6 tyX6 tyX6_ok nmX6 hown hK hP hD hS 0 rfl rfl 3 (by decide) (hts (Cond.fieldLink RX6 18 "SevenUnsaid$Rules" "turn" "[I") (List.mem_of_getElem? (i := 70) (by decide +kernel))) (fun _ h9 => h9) rfl hin rfl (by decide +kernel) rfl rfl (Nat.le_of_ble_eq_true rfl) dX6_init_25 (fun H locs hP hD hS => ?_)
  have hP : va_P D vwCl ((h, .inr (6, [.int 0, .ref q1, .ref q2, .ref q3, .int 0, .int 0, .int 0])) :: ((([] ++ yZ c3.1 q1 7) ++ yZ c3.1 q2 7) ++ yZ c3.1 q3 7)) H := hP
  have hD : va_D A ((h, .inr (6, [.int 0, .ref q1, .ref q2, .ref q3, .int 0, .int 0, .int 0])) :: ((([] ++ yZ c3.1 q1 7) ++ yZ c3.1 q2 7) ++ yZ c3.1 q3 7)) := hD
  exact kk (q1, q2, q3) _ _ _ _ dX6_init_28 hP hD hS
theorem dX1_init_0 : decode cX1_init 0 = .ok (.aload_n 0, 1) := by decide +kernel
theorem dX1_init_1 : decode cX1_init 1 = .ok (.invokespecial 3, 3) := by decide +kernel
theorem dX1_init_4 : decode cX1_init 4 = .ok (.aload_n 0, 1) := by decide +kernel
theorem dX1_init_5 : decode cX1_init 5 = .ok (.iconst 1, 1) := by decide +kernel
theorem dX1_init_6 : decode cX1_init 6 = .ok (.putfield 9, 3) := by decide +kernel
theorem dX1_init_9 : decode cX1_init 9 = .ok (.aload_n 0, 1) := by decide +kernel
theorem dX1_init_10 : decode cX1_init 10 = .ok (.iconst 1, 1) := by decide +kernel
theorem dX1_init_11 : decode cX1_init 11 = .ok (.putfield 15, 3) := by decide +kernel
theorem dX1_init_14 : decode cX1_init 14 = .ok (.aload_n 0, 1) := by decide +kernel
theorem dX1_init_15 : decode cX1_init 15 = .ok (.iconst (-1), 1) := by decide +kernel
theorem dX1_init_16 : decode cX1_init 16 = .ok (.putfield 18, 3) := by decide +kernel
theorem dX1_init_19 : decode cX1_init 19 = .ok (.return_, 1) := by decide +kernel
abbrev S1 : Type := Unit
def w1 (c3 : yI3) (h : Nat) (_ : S1) : va_W := ((h, .inr (1, [.int 1, .int 0, .int 1, .int 0, .int 0, .int 0, .int 0, .int (-1)])) :: [])
theorem yw1 : yWd yX1_init cX1_init 1 := ⟨(List.mem_of_getElem? (i := 72) (by decide +kernel)), (List.mem_of_getElem? (i := 71) (by decide +kernel)), (List.mem_of_getElem? (i := 47) (by decide +kernel)), rfl, by decide, by decide, by decide +kernel⟩
set_option maxHeartbeats 4000000 in
set_option maxRecDepth 100000 in
theorem yk1 (l : Launch) : yMk l yX1_init cX1_init 1 1 [.int 0, .int 0, .int 0, .int 0, .int 0, .int 0, .int 0, .int 0] w1 1 0 0 := by
  refine yMk.of (by decide +kernel) rfl (by decide) ?_
  intro p e s m below meth c D c3 h A Q ls C hin hA hP hD hS hl kk
  have hown : s.vm.findClass RX1 = some m.cls := C.2.2.2.1
  have hx := C.1
  have hb := C.2.1
  have hml := C.2.2.1
  have hts := C.2.2.2.2.1
  have hK := C.2.2.2.2.2.1
  have hP : va_P D vwCl ((h, .inr (1, [.int 0, .int 0, .int 0, .int 0, .int 0, .int 0, .int 0, .int 0])) :: []) s.heap := hP
  have hD : va_D A ((h, .inr (1, [.int 0, .int 0, .int 0, .int 0, .int 0, .int 0, .int 0, .int 0])) :: []) := hD
  refine lv_aload_n hx hb dX1_init_0 rfl (lv_at hl 0 rfl) ?_
  refine W.objInit hx hb hown (hts (Cond.methodLink RX1 3 objectInit) (List.mem_of_getElem? (i := 73) (by decide +kernel))) (hts (Cond.instanceMethod objectInit) (List.mem_of_getElem? (i := 10) (by decide +kernel))) (hts _ (List.mem_of_getElem? (i := 11) (by decide +kernel))) rfl (by rw [hml]; exact hl.1) rfl dX1_init_1 (Nat.le_of_ble_eq_true rfl) (Nat.le_of_ble_eq_true rfl) ?_
  refine W.eq (g2 := F0 m 4 ls []) rfl ?_
  refine lv_aload_n hx hb dX1_init_4 rfl (lv_at hl 0 rfl) ?_
  refine lv_iconst (v := 1) hx hb dX1_init_5 (by decide) ?_
  refine va_put (D := D) (ci := 1) (v := .int 1) (ty := .int) (C := RX1) (T := TX1) (N := 8) hx hb hts inlX1 tyX1 tyX1_ok nmX1 hown hK hP hD hS 0 rfl rfl 0 (by decide) (hts (Cond.fieldLink RX1 9 "SevenUnsaid$Count" "next" "I") (List.mem_of_getElem? (i := 74) (by decide +kernel))) (fun _ h9 => h9) rfl (by decide +kernel) rfl rfl (Nat.le_of_ble_eq_true rfl) dX1_init_6 (fun H locs hP hD hS => ?_)
  have hP : va_P D vwCl ((h, .inr (1, [.int 1, .int 0, .int 0, .int 0, .int 0, .int 0, .int 0, .int 0])) :: []) H := hP
  have hD : va_D A ((h, .inr (1, [.int 1, .int 0, .int 0, .int 0, .int 0, .int 0, .int 0, .int 0])) :: []) := hD
  refine lv_aload_n hx hb dX1_init_9 rfl (lv_at hl 0 rfl) ?_
  refine lv_iconst (v := 1) hx hb dX1_init_10 (by decide) ?_
  refine va_put (D := D) (ci := 1) (v := .int 1) (ty := .int) (C := RX1) (T := TX1) (N := 8) hx hb hts inlX1 tyX1 tyX1_ok nmX1 hown hK hP hD hS 0 rfl rfl 2 (by decide) (hts (Cond.fieldLink RX1 15 "SevenUnsaid$Count" "way" "I") (List.mem_of_getElem? (i := 75) (by decide +kernel))) (fun _ h9 => h9) rfl (by decide +kernel) rfl rfl (Nat.le_of_ble_eq_true rfl) dX1_init_11 (fun H locs hP hD hS => ?_)
  have hP : va_P D vwCl ((h, .inr (1, [.int 1, .int 0, .int 1, .int 0, .int 0, .int 0, .int 0, .int 0])) :: []) H := hP
  have hD : va_D A ((h, .inr (1, [.int 1, .int 0, .int 1, .int 0, .int 0, .int 0, .int 0, .int 0])) :: []) := hD
  refine lv_aload_n hx hb dX1_init_14 rfl (lv_at hl 0 rfl) ?_
  refine lv_iconst (v := (-1)) hx hb dX1_init_15 (by decide) ?_
  refine va_put (D := D) (ci := 1) (v := .int (-1)) (ty := .int) (C := RX1) (T := TX1) (N := 8) hx hb hts inlX1 tyX1 tyX1_ok nmX1 hown hK hP hD hS 0 rfl rfl 7 (by decide) (hts (Cond.fieldLink RX1 18 "SevenUnsaid$Count" "last" "I") (List.mem_of_getElem? (i := 76) (by decide +kernel))) (fun _ h9 => h9) rfl (by decide +kernel) rfl rfl (Nat.le_of_ble_eq_true rfl) dX1_init_16 (fun H locs hP hD hS => ?_)
  have hP : va_P D vwCl ((h, .inr (1, [.int 1, .int 0, .int 1, .int 0, .int 0, .int 0, .int 0, .int (-1)])) :: []) H := hP
  have hD : va_D A ((h, .inr (1, [.int 1, .int 0, .int 1, .int 0, .int 0, .int 0, .int 0, .int (-1)])) :: []) := hD
  exact kk () _ _ _ _ dX1_init_19 hP hD hS
theorem dX0_init_0 : decode cX0_init 0 = .ok (.aload_n 0, 1) := by decide +kernel
theorem dX0_init_1 : decode cX0_init 1 = .ok (.invokespecial 3, 3) := by decide +kernel
theorem dX0_init_4 : decode cX0_init 4 = .ok (.aload_n 0, 1) := by decide +kernel
theorem dX0_init_5 : decode cX0_init 5 = .ok (.bipush 100, 2) := by decide +kernel
theorem dX0_init_7 : decode cX0_init 7 = .ok (.newarray .int, 2) := by decide +kernel
theorem dX0_init_9 : decode cX0_init 9 = .ok (.putfield 9, 3) := by decide +kernel
theorem dX0_init_12 : decode cX0_init 12 = .ok (.aload_n 0, 1) := by decide +kernel
theorem dX0_init_13 : decode cX0_init 13 = .ok (.bipush 100, 2) := by decide +kernel
theorem dX0_init_15 : decode cX0_init 15 = .ok (.newarray .int, 2) := by decide +kernel
theorem dX0_init_17 : decode cX0_init 17 = .ok (.putfield 15, 3) := by decide +kernel
theorem dX0_init_20 : decode cX0_init 20 = .ok (.aload_n 0, 1) := by decide +kernel
theorem dX0_init_21 : decode cX0_init 21 = .ok (.bipush 100, 2) := by decide +kernel
theorem dX0_init_23 : decode cX0_init 23 = .ok (.newarray .int, 2) := by decide +kernel
theorem dX0_init_25 : decode cX0_init 25 = .ok (.putfield 18, 3) := by decide +kernel
theorem dX0_init_28 : decode cX0_init 28 = .ok (.aload_n 0, 1) := by decide +kernel
theorem dX0_init_29 : decode cX0_init 29 = .ok (.bipush 100, 2) := by decide +kernel
theorem dX0_init_31 : decode cX0_init 31 = .ok (.newarray .int, 2) := by decide +kernel
theorem dX0_init_33 : decode cX0_init 33 = .ok (.putfield 21, 3) := by decide +kernel
theorem dX0_init_36 : decode cX0_init 36 = .ok (.return_, 1) := by decide +kernel
abbrev S0 : Type := Nat × Nat × Nat × Nat
def w0 (c3 : yI3) (h : Nat) (u : S0) : va_W := ((h, .inr (0, [.int 0, .ref (u.1), .ref (u.2.1), .ref (u.2.2.1), .ref (u.2.2.2)])) :: (((([] ++ yZ c3.1 (u.1) 100) ++ yZ c3.1 (u.2.1) 100) ++ yZ c3.1 (u.2.2.1) 100) ++ yZ c3.1 (u.2.2.2) 100))
theorem yw0 : yWd yX0_init cX0_init 1 := ⟨(List.mem_of_getElem? (i := 78) (by decide +kernel)), (List.mem_of_getElem? (i := 77) (by decide +kernel)), (List.mem_of_getElem? (i := 51) (by decide +kernel)), rfl, by decide, by decide, by decide +kernel⟩
set_option maxHeartbeats 4000000 in
set_option maxRecDepth 100000 in
theorem yk0 (l : Launch) : yMk l yX0_init cX0_init 1 0 [.int 0, .null, .null, .null, .null] w0 1 4 400 := by
  refine yMk.of (by decide +kernel) rfl (by decide) ?_
  intro p e s m below meth c D c3 h A Q ls C hin hA hP hD hS hl kk
  have hown : s.vm.findClass RX0 = some m.cls := C.2.2.2.1
  have hx := C.1
  have hb := C.2.1
  have hml := C.2.2.1
  have hts := C.2.2.2.2.1
  have hK := C.2.2.2.2.2.1
  have hP : va_P D vwCl ((h, .inr (0, [.int 0, .null, .null, .null, .null])) :: []) s.heap := hP
  have hD : va_D A ((h, .inr (0, [.int 0, .null, .null, .null, .null])) :: []) := hD
  refine lv_aload_n hx hb dX0_init_0 rfl (lv_at hl 0 rfl) ?_
  refine W.objInit hx hb hown (hts (Cond.methodLink RX0 3 objectInit) (List.mem_of_getElem? (i := 79) (by decide +kernel))) (hts (Cond.instanceMethod objectInit) (List.mem_of_getElem? (i := 10) (by decide +kernel))) (hts _ (List.mem_of_getElem? (i := 11) (by decide +kernel))) rfl (by rw [hml]; exact hl.1) rfl dX0_init_1 (Nat.le_of_ble_eq_true rfl) (Nat.le_of_ble_eq_true rfl) ?_
  refine W.eq (g2 := F0 m 4 ls []) rfl ?_
  refine lv_aload_n hx hb dX0_init_4 rfl (lv_at hl 0 rfl) ?_
  refine lv_bipush (v := 100) hx hb dX0_init_5 (by decide) ?_
  refine y_newi C hP hD hS hA 100 (by decide) (by decide) (Nat.le_of_ble_eq_true rfl) (Nat.le_of_ble_eq_true rfl) (Nat.le_of_ble_eq_true rfl) dX0_init_7 (fun q1 H hP hD hS => ?_)
  have hP : va_P D vwCl ((h, .inr (0, [.int 0, .null, .null, .null, .null])) :: ([] ++ yZ c3.1 q1 100)) H := hP
  have hD : va_D A ((h, .inr (0, [.int 0, .null, .null, .null, .null])) :: ([] ++ yZ c3.1 q1 100)) := hD
  refine va_putF (D := D) (ci := 0) (v := .ref q1) (ty := .array .int) (C := RX0) (T := TX0) (N := 5) hx hb hts inlX0 tyX0 tyX0_ok nmX0 hown hK hP hD hS 0 rfl rfl 1 (by decide) (hts (Cond.fieldLink RX0 9 "SevenUnsaid$Book" "number" "[I") (List.mem_of_getElem? (i := 80) (by decide +kernel))) (fun _ h9 => h9) rfl hin rfl (by decide +kernel) rfl rfl (Nat.le_of_ble_eq_true rfl) dX0_init_9 (fun H locs hP hD hS => ?_)
  have hP : va_P D vwCl ((h, .inr (0, [.int 0, .ref q1, .null, .null, .null])) :: ([] ++ yZ c3.1 q1 100)) H := hP
  have hD : va_D A ((h, .inr (0, [.int 0, .ref q1, .null, .null, .null])) :: ([] ++ yZ c3.1 q1 100)) := hD
  refine lv_aload_n hx hb dX0_init_12 rfl (lv_at hl 0 rfl) ?_
  refine lv_bipush (v := 100) hx hb dX0_init_13 (by decide) ?_
  refine y_newi C hP hD hS hA 100 (by decide) (by decide) (Nat.le_of_ble_eq_true rfl) (Nat.le_of_ble_eq_true rfl) (Nat.le_of_ble_eq_true rfl) dX0_init_15 (fun q2 H hP hD hS => ?_)
  have hP : va_P D vwCl ((h, .inr (0, [.int 0, .ref q1, .null, .null, .null])) :: (([] ++ yZ c3.1 q1 100) ++ yZ c3.1 q2 100)) H := hP
  have hD : va_D A ((h, .inr (0, [.int 0, .ref q1, .null, .null, .null])) :: (([] ++ yZ c3.1 q1 100) ++ yZ c3.1 q2 100)) := hD
  refine va_putF (D := D) (ci := 0) (v := .ref q2) (ty := .array .int) (C := RX0) (T := TX0) (N := 5) hx hb hts inlX0 tyX0 tyX0_ok nmX0 hown hK hP hD hS 0 rfl rfl 2 (by decide) (hts (Cond.fieldLink RX0 15 "SevenUnsaid$Book" "erred" "[I") (List.mem_of_getElem? (i := 81) (by decide +kernel))) (fun _ h9 => h9) rfl hin rfl (by decide +kernel) rfl rfl (Nat.le_of_ble_eq_true rfl) dX0_init_17 (fun H locs hP hD hS => ?_)
  have hP : va_P D vwCl ((h, .inr (0, [.int 0, .ref q1, .ref q2, .null, .null])) :: (([] ++ yZ c3.1 q1 100) ++ yZ c3.1 q2 100)) H := hP
  have hD : va_D A ((h, .inr (0, [.int 0, .ref q1, .ref q2, .null, .null])) :: (([] ++ yZ c3.1 q1 100) ++ yZ c3.1 q2 100)) := hD
  refine lv_aload_n hx hb dX0_init_20 rfl (lv_at hl 0 rfl) ?_
  refine lv_bipush (v := 100) hx hb dX0_init_21 (by decide) ?_
  refine y_newi C hP hD hS hA 100 (by decide) (by decide) (Nat.le_of_ble_eq_true rfl) (Nat.le_of_ble_eq_true rfl) (Nat.le_of_ble_eq_true rfl) dX0_init_23 (fun q3 H hP hD hS => ?_)
  have hP : va_P D vwCl ((h, .inr (0, [.int 0, .ref q1, .ref q2, .null, .null])) :: ((([] ++ yZ c3.1 q1 100) ++ yZ c3.1 q2 100) ++ yZ c3.1 q3 100)) H := hP
  have hD : va_D A ((h, .inr (0, [.int 0, .ref q1, .ref q2, .null, .null])) :: ((([] ++ yZ c3.1 q1 100) ++ yZ c3.1 q2 100) ++ yZ c3.1 q3 100)) := hD
  refine va_putF (D := D) (ci := 0) (v := .ref q3) (ty := .array .int) (C := RX0) (T := TX0) (N := 5) hx hb hts inlX0 tyX0 tyX0_ok nmX0 hown hK hP hD hS 0 rfl rfl 3 (by decide) (hts (Cond.fieldLink RX0 18 "SevenUnsaid$Book" "ahead" "[I") (List.mem_of_getElem? (i := 82) (by decide +kernel))) (fun _ h9 => h9) rfl hin rfl (by decide +kernel) rfl rfl (Nat.le_of_ble_eq_true rfl) dX0_init_25 (fun H locs hP hD hS => ?_)
  have hP : va_P D vwCl ((h, .inr (0, [.int 0, .ref q1, .ref q2, .ref q3, .null])) :: ((([] ++ yZ c3.1 q1 100) ++ yZ c3.1 q2 100) ++ yZ c3.1 q3 100)) H := hP
  have hD : va_D A ((h, .inr (0, [.int 0, .ref q1, .ref q2, .ref q3, .null])) :: ((([] ++ yZ c3.1 q1 100) ++ yZ c3.1 q2 100) ++ yZ c3.1 q3 100)) := hD
  refine lv_aload_n hx hb dX0_init_28 rfl (lv_at hl 0 rfl) ?_
  refine lv_bipush (v := 100) hx hb dX0_init_29 (by decide) ?_
  refine y_newi C hP hD hS hA 100 (by decide) (by decide) (Nat.le_of_ble_eq_true rfl) (Nat.le_of_ble_eq_true rfl) (Nat.le_of_ble_eq_true rfl) dX0_init_31 (fun q4 H hP hD hS => ?_)
  have hP : va_P D vwCl ((h, .inr (0, [.int 0, .ref q1, .ref q2, .ref q3, .null])) :: (((([] ++ yZ c3.1 q1 100) ++ yZ c3.1 q2 100) ++ yZ c3.1 q3 100) ++ yZ c3.1 q4 100)) H := hP
  have hD : va_D A ((h, .inr (0, [.int 0, .ref q1, .ref q2, .ref q3, .null])) :: (((([] ++ yZ c3.1 q1 100) ++ yZ c3.1 q2 100) ++ yZ c3.1 q3 100) ++ yZ c3.1 q4 100)) := hD
  refine va_putF (D := D) (ci := 0) (v := .ref q4) (ty := .array .int) (C := RX0) (T := TX0) (N := 5) hx hb hts inlX0 tyX0 tyX0_ok nmX0 hown hK hP hD hS 0 rfl rfl 4 (by decide) (hts (Cond.fieldLink RX0 21 "SevenUnsaid$Book" "glasses" "[I") (List.mem_of_getElem? (i := 83) (by decide +kernel))) (fun _ h9 => h9) rfl hin rfl (by decide +kernel) rfl rfl (Nat.le_of_ble_eq_true rfl) dX0_init_33 (fun H locs hP hD hS => ?_)
  have hP : va_P D vwCl ((h, .inr (0, [.int 0, .ref q1, .ref q2, .ref q3, .ref q4])) :: (((([] ++ yZ c3.1 q1 100) ++ yZ c3.1 q2 100) ++ yZ c3.1 q3 100) ++ yZ c3.1 q4 100)) H := hP
  have hD : va_D A ((h, .inr (0, [.int 0, .ref q1, .ref q2, .ref q3, .ref q4])) :: (((([] ++ yZ c3.1 q1 100) ++ yZ c3.1 q2 100) ++ yZ c3.1 q3 100) ++ yZ c3.1 q4 100)) := hD
  exact kk (q1, q2, q3, q4) _ _ _ _ dX0_init_36 hP hD hS
theorem dX3_init_0 : decode cX3_init 0 = .ok (.aload_n 0, 1) := by decide +kernel
theorem dX3_init_1 : decode cX3_init 1 = .ok (.invokespecial 3, 3) := by decide +kernel
theorem dX3_init_4 : decode cX3_init 4 = .ok (.aload_n 0, 1) := by decide +kernel
theorem dX3_init_5 : decode cX3_init 5 = .ok (.sipush 400, 3) := by decide +kernel
theorem dX3_init_8 : decode cX3_init 8 = .ok (.newarray .int, 2) := by decide +kernel
theorem dX3_init_10 : decode cX3_init 10 = .ok (.putfield 9, 3) := by decide +kernel
theorem dX3_init_13 : decode cX3_init 13 = .ok (.aload_n 0, 1) := by decide +kernel
theorem dX3_init_14 : decode cX3_init 14 = .ok (.bipush 8, 2) := by decide +kernel
theorem dX3_init_16 : decode cX3_init 16 = .ok (.newarray .int, 2) := by decide +kernel
theorem dX3_init_18 : decode cX3_init 18 = .ok (.putfield 15, 3) := by decide +kernel
theorem dX3_init_21 : decode cX3_init 21 = .ok (.aload_n 0, 1) := by decide +kernel
theorem dX3_init_22 : decode cX3_init 22 = .ok (.bipush 40, 2) := by decide +kernel
theorem dX3_init_24 : decode cX3_init 24 = .ok (.newarray .int, 2) := by decide +kernel
theorem dX3_init_26 : decode cX3_init 26 = .ok (.putfield 18, 3) := by decide +kernel
theorem dX3_init_29 : decode cX3_init 29 = .ok (.return_, 1) := by decide +kernel
abbrev S3 : Type := Nat × Nat × Nat
def w3 (c3 : yI3) (h : Nat) (u : S3) : va_W := ((h, .inr (3, [.int 0, .int 0, .int 0, .ref (u.1), .ref (u.2.1), .ref (u.2.2), .int 0])) :: ((([] ++ yZ c3.1 (u.1) 400) ++ yZ c3.1 (u.2.1) 8) ++ yZ c3.1 (u.2.2) 40))
theorem yw3 : yWd yX3_init cX3_init 1 := ⟨(List.mem_of_getElem? (i := 85) (by decide +kernel)), (List.mem_of_getElem? (i := 84) (by decide +kernel)), (List.mem_of_getElem? (i := 55) (by decide +kernel)), rfl, by decide, by decide, by decide +kernel⟩
set_option maxHeartbeats 4000000 in
set_option maxRecDepth 100000 in
theorem yk3 (l : Launch) : yMk l yX3_init cX3_init 1 3 [.int 0, .int 0, .int 0, .null, .null, .null, .int 0] w3 1 3 448 := by
  refine yMk.of (by decide +kernel) rfl (by decide) ?_
  intro p e s m below meth c D c3 h A Q ls C hin hA hP hD hS hl kk
  have hown : s.vm.findClass RX3 = some m.cls := C.2.2.2.1
  have hx := C.1
  have hb := C.2.1
  have hml := C.2.2.1
  have hts := C.2.2.2.2.1
  have hK := C.2.2.2.2.2.1
  have hP : va_P D vwCl ((h, .inr (3, [.int 0, .int 0, .int 0, .null, .null, .null, .int 0])) :: []) s.heap := hP
  have hD : va_D A ((h, .inr (3, [.int 0, .int 0, .int 0, .null, .null, .null, .int 0])) :: []) := hD
  refine lv_aload_n hx hb dX3_init_0 rfl (lv_at hl 0 rfl) ?_
  refine W.objInit hx hb hown (hts (Cond.methodLink RX3 3 objectInit) (List.mem_of_getElem? (i := 86) (by decide +kernel))) (hts (Cond.instanceMethod objectInit) (List.mem_of_getElem? (i := 10) (by decide +kernel))) (hts _ (List.mem_of_getElem? (i := 11) (by decide +kernel))) rfl (by rw [hml]; exact hl.1) rfl dX3_init_1 (Nat.le_of_ble_eq_true rfl) (Nat.le_of_ble_eq_true rfl) ?_
  refine W.eq (g2 := F0 m 4 ls []) rfl ?_
  refine lv_aload_n hx hb dX3_init_4 rfl (lv_at hl 0 rfl) ?_
  refine lv_sipush (v := 400) hx hb dX3_init_5 (by decide) ?_
  refine y_newi C hP hD hS hA 400 (by decide) (by decide) (Nat.le_of_ble_eq_true rfl) (Nat.le_of_ble_eq_true rfl) (Nat.le_of_ble_eq_true rfl) dX3_init_8 (fun q1 H hP hD hS => ?_)
  have hP : va_P D vwCl ((h, .inr (3, [.int 0, .int 0, .int 0, .null, .null, .null, .int 0])) :: ([] ++ yZ c3.1 q1 400)) H := hP
  have hD : va_D A ((h, .inr (3, [.int 0, .int 0, .int 0, .null, .null, .null, .int 0])) :: ([] ++ yZ c3.1 q1 400)) := hD
  refine va_putF (D := D) (ci := 3) (v := .ref q1) (ty := .array .int) (C := RX3) (T := TX3) (N := 7) hx hb hts inlX3 tyX3 tyX3_ok nmX3 hown hK hP hD hS 0 rfl rfl 3 (by decide) (hts (Cond.fieldLink RX3 9 "SevenUnsaid$Law" "code" "[I") (List.mem_of_getElem? (i := 87) (by decide +kernel))) (fun _ h9 => h9) rfl hin rfl (by decide +kernel) rfl rfl (Nat.le_of_ble_eq_true rfl) dX3_init_10 (fun H locs hP hD hS => ?_)
  have hP : va_P D vwCl ((h, .inr (3, [.int 0, .int 0, .int 0, .ref q1, .null, .null, .int 0])) :: ([] ++ yZ c3.1 q1 400)) H := hP
  have hD : va_D A ((h, .inr (3, [.int 0, .int 0, .int 0, .ref q1, .null, .null, .int 0])) :: ([] ++ yZ c3.1 q1 400)) := hD
  refine lv_aload_n hx hb dX3_init_13 rfl (lv_at hl 0 rfl) ?_
  refine lv_bipush (v := 8) hx hb dX3_init_14 (by decide) ?_
  refine y_newi C hP hD hS hA 8 (by decide) (by decide) (Nat.le_of_ble_eq_true rfl) (Nat.le_of_ble_eq_true rfl) (Nat.le_of_ble_eq_true rfl) dX3_init_16 (fun q2 H hP hD hS => ?_)
  have hP : va_P D vwCl ((h, .inr (3, [.int 0, .int 0, .int 0, .ref q1, .null, .null, .int 0])) :: (([] ++ yZ c3.1 q1 400) ++ yZ c3.1 q2 8)) H := hP
  have hD : va_D A ((h, .inr (3, [.int 0, .int 0, .int 0, .ref q1, .null, .null, .int 0])) :: (([] ++ yZ c3.1 q1 400) ++ yZ c3.1 q2 8)) := hD
  refine va_putF (D := D) (ci := 3) (v := .ref q2) (ty := .array .int) (C := RX3) (T := TX3) (N := 7) hx hb hts inlX3 tyX3 tyX3_ok nmX3 hown hK hP hD hS 0 rfl rfl 4 (by decide) (hts (Cond.fieldLink RX3 15 "SevenUnsaid$Law" "facts" "[I") (List.mem_of_getElem? (i := 88) (by decide +kernel))) (fun _ h9 => h9) rfl hin rfl (by decide +kernel) rfl rfl (Nat.le_of_ble_eq_true rfl) dX3_init_18 (fun H locs hP hD hS => ?_)
  have hP : va_P D vwCl ((h, .inr (3, [.int 0, .int 0, .int 0, .ref q1, .ref q2, .null, .int 0])) :: (([] ++ yZ c3.1 q1 400) ++ yZ c3.1 q2 8)) H := hP
  have hD : va_D A ((h, .inr (3, [.int 0, .int 0, .int 0, .ref q1, .ref q2, .null, .int 0])) :: (([] ++ yZ c3.1 q1 400) ++ yZ c3.1 q2 8)) := hD
  refine lv_aload_n hx hb dX3_init_21 rfl (lv_at hl 0 rfl) ?_
  refine lv_bipush (v := 40) hx hb dX3_init_22 (by decide) ?_
  refine y_newi C hP hD hS hA 40 (by decide) (by decide) (Nat.le_of_ble_eq_true rfl) (Nat.le_of_ble_eq_true rfl) (Nat.le_of_ble_eq_true rfl) dX3_init_24 (fun q3 H hP hD hS => ?_)
  have hP : va_P D vwCl ((h, .inr (3, [.int 0, .int 0, .int 0, .ref q1, .ref q2, .null, .int 0])) :: ((([] ++ yZ c3.1 q1 400) ++ yZ c3.1 q2 8) ++ yZ c3.1 q3 40)) H := hP
  have hD : va_D A ((h, .inr (3, [.int 0, .int 0, .int 0, .ref q1, .ref q2, .null, .int 0])) :: ((([] ++ yZ c3.1 q1 400) ++ yZ c3.1 q2 8) ++ yZ c3.1 q3 40)) := hD
  refine va_putF (D := D) (ci := 3) (v := .ref q3) (ty := .array .int) (C := RX3) (T := TX3) (N := 7) hx hb hts inlX3 tyX3 tyX3_ok nmX3 hown hK hP hD hS 0 rfl rfl 5 (by decide) (hts (Cond.fieldLink RX3 18 "SevenUnsaid$Law" "stack" "[I") (List.mem_of_getElem? (i := 89) (by decide +kernel))) (fun _ h9 => h9) rfl hin rfl (by decide +kernel) rfl rfl (Nat.le_of_ble_eq_true rfl) dX3_init_26 (fun H locs hP hD hS => ?_)
  have hP : va_P D vwCl ((h, .inr (3, [.int 0, .int 0, .int 0, .ref q1, .ref q2, .ref q3, .int 0])) :: ((([] ++ yZ c3.1 q1 400) ++ yZ c3.1 q2 8) ++ yZ c3.1 q3 40)) H := hP
  have hD : va_D A ((h, .inr (3, [.int 0, .int 0, .int 0, .ref q1, .ref q2, .ref q3, .int 0])) :: ((([] ++ yZ c3.1 q1 400) ++ yZ c3.1 q2 8) ++ yZ c3.1 q3 40)) := hD
  exact kk (q1, q2, q3) _ _ _ _ dX3_init_29 hP hD hS
theorem dX9_init_0 : decode cX9_init 0 = .ok (.aload_n 0, 1) := by decide +kernel
theorem dX9_init_1 : decode cX9_init 1 = .ok (.invokespecial 3, 3) := by decide +kernel
theorem dX9_init_4 : decode cX9_init 4 = .ok (.aload_n 0, 1) := by decide +kernel
theorem dX9_init_5 : decode cX9_init 5 = .ok (.iconst 0, 1) := by decide +kernel
theorem dX9_init_6 : decode cX9_init 6 = .ok (.putfield 9, 3) := by decide +kernel
theorem dX9_init_9 : decode cX9_init 9 = .ok (.aload_n 0, 1) := by decide +kernel
theorem dX9_init_10 : decode cX9_init 10 = .ok (.sipush 400, 3) := by decide +kernel
theorem dX9_init_13 : decode cX9_init 13 = .ok (.newarray .byte, 2) := by decide +kernel
theorem dX9_init_15 : decode cX9_init 15 = .ok (.putfield 15, 3) := by decide +kernel
theorem dX9_init_18 : decode cX9_init 18 = .ok (.return_, 1) := by decide +kernel
abbrev S9 : Type := Nat
def w9 (c3 : yI3) (h : Nat) (u : S9) : va_W := ((h, .inr (9, [.int 0, .int 0, .int 0, .int 0, .int 0, .ref u])) :: ([] ++ yZ c3.2.1 u 400))
theorem yw9 : yWd yX9_init cX9_init 1 := ⟨(List.mem_of_getElem? (i := 128) (by decide +kernel)), (List.mem_of_getElem? (i := 127) (by decide +kernel)), (List.mem_of_getElem? (i := 122) (by decide +kernel)), rfl, by decide, by decide, by decide +kernel⟩
set_option maxHeartbeats 4000000 in
set_option maxRecDepth 100000 in
theorem yk9 (l : Launch) : yMk l yX9_init cX9_init 1 9 [.int 0, .int 0, .int 0, .int 0, .int 0, .null] w9 1 1 400 := by
  refine yMk.of (by decide +kernel) rfl (by decide) ?_
  intro p e s m below meth c D c3 h A Q ls C hin hA hP hD hS hl kk
  have hown : s.vm.findClass RX9 = some m.cls := C.2.2.2.1
  have hx := C.1
  have hb := C.2.1
  have hml := C.2.2.1
  have hts := C.2.2.2.2.1
  have hK := C.2.2.2.2.2.1
  have hP : va_P D vwCl ((h, .inr (9, [.int 0, .int 0, .int 0, .int 0, .int 0, .null])) :: []) s.heap := hP
  have hD : va_D A ((h, .inr (9, [.int 0, .int 0, .int 0, .int 0, .int 0, .null])) :: []) := hD
  refine lv_aload_n hx hb dX9_init_0 rfl (lv_at hl 0 rfl) ?_
  refine W.objInit hx hb hown (hts (Cond.methodLink RX9 3 objectInit) (List.mem_of_getElem? (i := 129) (by decide +kernel))) (hts (Cond.instanceMethod objectInit) (List.mem_of_getElem? (i := 10) (by decide +kernel))) (hts _ (List.mem_of_getElem? (i := 11) (by decide +kernel))) rfl (by rw [hml]; exact hl.1) rfl dX9_init_1 (Nat.le_of_ble_eq_true rfl) (Nat.le_of_ble_eq_true rfl) ?_
  refine W.eq (g2 := F0 m 4 ls []) rfl ?_
  refine lv_aload_n hx hb dX9_init_4 rfl (lv_at hl 0 rfl) ?_
  refine lv_iconst (v := 0) hx hb dX9_init_5 (by decide) ?_
  refine va_put (D := D) (ci := 9) (v := .int 0) (ty := .int) (C := RX9) (T := TX9) (N := 6) hx hb hts inlX9 tyX9 tyX9_ok nmX9 hown hK hP hD hS 0 rfl rfl 1 (by decide) (hts (Cond.fieldLink RX9 9 "SevenUnsaid$Tape" "kind" "I") (List.mem_of_getElem? (i := 130) (by decide +kernel))) (fun _ h9 => h9) rfl (by decide +kernel) rfl rfl (Nat.le_of_ble_eq_true rfl) dX9_init_6 (fun H locs hP hD hS => ?_)
  have hP : va_P D vwCl ((h, .inr (9, [.int 0, .int 0, .int 0, .int 0, .int 0, .null])) :: []) H := hP
  have hD : va_D A ((h, .inr (9, [.int 0, .int 0, .int 0, .int 0, .int 0, .null])) :: []) := hD
  refine lv_aload_n hx hb dX9_init_9 rfl (lv_at hl 0 rfl) ?_
  refine lv_sipush (v := 400) hx hb dX9_init_10 (by decide) ?_
  refine y_newb C hP hD hS hA 400 (by decide) (by decide) (Nat.le_of_ble_eq_true rfl) (Nat.le_of_ble_eq_true rfl) (Nat.le_of_ble_eq_true rfl) dX9_init_13 (fun q1 H hP hD hS => ?_)
  have hP : va_P D vwCl ((h, .inr (9, [.int 0, .int 0, .int 0, .int 0, .int 0, .null])) :: ([] ++ yZ c3.2.1 q1 400)) H := hP
  have hD : va_D A ((h, .inr (9, [.int 0, .int 0, .int 0, .int 0, .int 0, .null])) :: ([] ++ yZ c3.2.1 q1 400)) := hD
  refine va_putF (D := D) (ci := 9) (v := .ref q1) (ty := .array .byte) (C := RX9) (T := TX9) (N := 6) hx hb hts inlX9 tyX9 tyX9_ok nmX9 hown hK hP hD hS 0 rfl rfl 5 (by decide) (hts (Cond.fieldLink RX9 15 "SevenUnsaid$Tape" "bytes" "[B") (List.mem_of_getElem? (i := 132) (by decide +kernel))) (fun _ h9 => h9) rfl hin rfl (by decide +kernel) rfl rfl (Nat.le_of_ble_eq_true rfl) dX9_init_15 (fun H locs hP hD hS => ?_)
  have hP : va_P D vwCl ((h, .inr (9, [.int 0, .int 0, .int 0, .int 0, .int 0, .ref q1])) :: ([] ++ yZ c3.2.1 q1 400)) H := hP
  have hD : va_D A ((h, .inr (9, [.int 0, .int 0, .int 0, .int 0, .int 0, .ref q1])) :: ([] ++ yZ c3.2.1 q1 400)) := hD
  exact kk q1 _ _ _ _ dX9_init_18 hP hD hS
theorem dX7_init_0 : decode cX7_init 0 = .ok (.aload_n 0, 1) := by decide +kernel
theorem dX7_init_1 : decode cX7_init 1 = .ok (.invokespecial 3, 3) := by decide +kernel
theorem dX7_init_4 : decode cX7_init 4 = .ok (.aload_n 0, 1) := by decide +kernel
theorem dX7_init_5 : decode cX7_init 5 = .ok (.bipush 60, 2) := by decide +kernel
theorem dX7_init_7 : decode cX7_init 7 = .ok (.newarray .int, 2) := by decide +kernel
theorem dX7_init_9 : decode cX7_init 9 = .ok (.putfield 9, 3) := by decide +kernel
theorem dX7_init_12 : decode cX7_init 12 = .ok (.aload_n 0, 1) := by decide +kernel
theorem dX7_init_13 : decode cX7_init 13 = .ok (.sipush 360, 3) := by decide +kernel
theorem dX7_init_16 : decode cX7_init 16 = .ok (.newarray .int, 2) := by decide +kernel
theorem dX7_init_18 : decode cX7_init 18 = .ok (.putfield 15, 3) := by decide +kernel
theorem dX7_init_21 : decode cX7_init 21 = .ok (.aload_n 0, 1) := by decide +kernel
theorem dX7_init_22 : decode cX7_init 22 = .ok (.bipush 6, 2) := by decide +kernel
theorem dX7_init_24 : decode cX7_init 24 = .ok (.newarray .int, 2) := by decide +kernel
theorem dX7_init_26 : decode cX7_init 26 = .ok (.putfield 18, 3) := by decide +kernel
theorem dX7_init_29 : decode cX7_init 29 = .ok (.aload_n 0, 1) := by decide +kernel
theorem dX7_init_30 : decode cX7_init 30 = .ok (.bipush 6, 2) := by decide +kernel
theorem dX7_init_32 : decode cX7_init 32 = .ok (.newarray .int, 2) := by decide +kernel
theorem dX7_init_34 : decode cX7_init 34 = .ok (.putfield 21, 3) := by decide +kernel
theorem dX7_init_37 : decode cX7_init 37 = .ok (.return_, 1) := by decide +kernel
abbrev S7 : Type := Nat × Nat × Nat × Nat
def w7 (c3 : yI3) (h : Nat) (u : S7) : va_W := ((h, .inr (7, [.int 0, .ref (u.1), .ref (u.2.1), .ref (u.2.2.1), .ref (u.2.2.2)])) :: (((([] ++ yZ c3.1 (u.1) 60) ++ yZ c3.1 (u.2.1) 360) ++ yZ c3.1 (u.2.2.1) 6) ++ yZ c3.1 (u.2.2.2) 6))
theorem yw7 : yWd yX7_init cX7_init 1 := ⟨(List.mem_of_getElem? (i := 111) (by decide +kernel)), (List.mem_of_getElem? (i := 110) (by decide +kernel)), (List.mem_of_getElem? (i := 27) (by decide +kernel)), rfl, by decide, by decide, by decide +kernel⟩
set_option maxHeartbeats 4000000 in
set_option maxRecDepth 100000 in
theorem yk7 (l : Launch) : yMk l yX7_init cX7_init 1 7 [.int 0, .null, .null, .null, .null] w7 1 4 432 := by
  refine yMk.of (by decide +kernel) rfl (by decide) ?_
  intro p e s m below meth c D c3 h A Q ls C hin hA hP hD hS hl kk
  have hown : s.vm.findClass RX7 = some m.cls := C.2.2.2.1
  have hx := C.1
  have hb := C.2.1
  have hml := C.2.2.1
  have hts := C.2.2.2.2.1
  have hK := C.2.2.2.2.2.1
  have hP : va_P D vwCl ((h, .inr (7, [.int 0, .null, .null, .null, .null])) :: []) s.heap := hP
  have hD : va_D A ((h, .inr (7, [.int 0, .null, .null, .null, .null])) :: []) := hD
  refine lv_aload_n hx hb dX7_init_0 rfl (lv_at hl 0 rfl) ?_
  refine W.objInit hx hb hown (hts (Cond.methodLink RX7 3 objectInit) (List.mem_of_getElem? (i := 112) (by decide +kernel))) (hts (Cond.instanceMethod objectInit) (List.mem_of_getElem? (i := 10) (by decide +kernel))) (hts _ (List.mem_of_getElem? (i := 11) (by decide +kernel))) rfl (by rw [hml]; exact hl.1) rfl dX7_init_1 (Nat.le_of_ble_eq_true rfl) (Nat.le_of_ble_eq_true rfl) ?_
  refine W.eq (g2 := F0 m 4 ls []) rfl ?_
  refine lv_aload_n hx hb dX7_init_4 rfl (lv_at hl 0 rfl) ?_
  refine lv_bipush (v := 60) hx hb dX7_init_5 (by decide) ?_
  refine y_newi C hP hD hS hA 60 (by decide) (by decide) (Nat.le_of_ble_eq_true rfl) (Nat.le_of_ble_eq_true rfl) (Nat.le_of_ble_eq_true rfl) dX7_init_7 (fun q1 H hP hD hS => ?_)
  have hP : va_P D vwCl ((h, .inr (7, [.int 0, .null, .null, .null, .null])) :: ([] ++ yZ c3.1 q1 60)) H := hP
  have hD : va_D A ((h, .inr (7, [.int 0, .null, .null, .null, .null])) :: ([] ++ yZ c3.1 q1 60)) := hD
  refine va_putF (D := D) (ci := 7) (v := .ref q1) (ty := .array .int) (C := RX7) (T := TX7) (N := 5) hx hb hts inlX7 tyX7 tyX7_ok nmX7 hown hK hP hD hS 0 rfl rfl 1 (by decide) (hts (Cond.fieldLink RX7 9 "SevenUnsaid$Seating" "seatAt" "[I") (List.mem_of_getElem? (i := 113) (by decide +kernel))) (fun _ h9 => h9) rfl hin rfl (by decide +kernel) rfl rfl (Nat.le_of_ble_eq_true rfl) dX7_init_9 (fun H locs hP hD hS => ?_)
  have hP : va_P D vwCl ((h, .inr (7, [.int 0, .ref q1, .null, .null, .null])) :: ([] ++ yZ c3.1 q1 60)) H := hP
  have hD : va_D A ((h, .inr (7, [.int 0, .ref q1, .null, .null, .null])) :: ([] ++ yZ c3.1 q1 60)) := hD
  refine lv_aload_n hx hb dX7_init_12 rfl (lv_at hl 0 rfl) ?_
  refine lv_sipush (v := 360) hx hb dX7_init_13 (by decide) ?_
  refine y_newi C hP hD hS hA 360 (by decide) (by decide) (Nat.le_of_ble_eq_true rfl) (Nat.le_of_ble_eq_true rfl) (Nat.le_of_ble_eq_true rfl) dX7_init_16 (fun q2 H hP hD hS => ?_)
  have hP : va_P D vwCl ((h, .inr (7, [.int 0, .ref q1, .null, .null, .null])) :: (([] ++ yZ c3.1 q1 60) ++ yZ c3.1 q2 360)) H := hP
  have hD : va_D A ((h, .inr (7, [.int 0, .ref q1, .null, .null, .null])) :: (([] ++ yZ c3.1 q1 60) ++ yZ c3.1 q2 360)) := hD
  refine va_putF (D := D) (ci := 7) (v := .ref q2) (ty := .array .int) (C := RX7) (T := TX7) (N := 5) hx hb hts inlX7 tyX7 tyX7_ok nmX7 hown hK hP hD hS 0 rfl rfl 2 (by decide) (hts (Cond.fieldLink RX7 15 "SevenUnsaid$Seating" "odds" "[I") (List.mem_of_getElem? (i := 114) (by decide +kernel))) (fun _ h9 => h9) rfl hin rfl (by decide +kernel) rfl rfl (Nat.le_of_ble_eq_true rfl) dX7_init_18 (fun H locs hP hD hS => ?_)
  have hP : va_P D vwCl ((h, .inr (7, [.int 0, .ref q1, .ref q2, .null, .null])) :: (([] ++ yZ c3.1 q1 60) ++ yZ c3.1 q2 360)) H := hP
  have hD : va_D A ((h, .inr (7, [.int 0, .ref q1, .ref q2, .null, .null])) :: (([] ++ yZ c3.1 q1 60) ++ yZ c3.1 q2 360)) := hD
  refine lv_aload_n hx hb dX7_init_21 rfl (lv_at hl 0 rfl) ?_
  refine lv_bipush (v := 6) hx hb dX7_init_22 (by decide) ?_
  refine y_newi C hP hD hS hA 6 (by decide) (by decide) (Nat.le_of_ble_eq_true rfl) (Nat.le_of_ble_eq_true rfl) (Nat.le_of_ble_eq_true rfl) dX7_init_24 (fun q3 H hP hD hS => ?_)
  have hP : va_P D vwCl ((h, .inr (7, [.int 0, .ref q1, .ref q2, .null, .null])) :: ((([] ++ yZ c3.1 q1 60) ++ yZ c3.1 q2 360) ++ yZ c3.1 q3 6)) H := hP
  have hD : va_D A ((h, .inr (7, [.int 0, .ref q1, .ref q2, .null, .null])) :: ((([] ++ yZ c3.1 q1 60) ++ yZ c3.1 q2 360) ++ yZ c3.1 q3 6)) := hD
  refine va_putF (D := D) (ci := 7) (v := .ref q3) (ty := .array .int) (C := RX7) (T := TX7) (N := 5) hx hb hts inlX7 tyX7 tyX7_ok nmX7 hown hK hP hD hS 0 rfl rfl 3 (by decide) (hts (Cond.fieldLink RX7 18 "SevenUnsaid$Seating" "order" "[I") (List.mem_of_getElem? (i := 115) (by decide +kernel))) (fun _ h9 => h9) rfl hin rfl (by decide +kernel) rfl rfl (Nat.le_of_ble_eq_true rfl) dX7_init_26 (fun H locs hP hD hS => ?_)
  have hP : va_P D vwCl ((h, .inr (7, [.int 0, .ref q1, .ref q2, .ref q3, .null])) :: ((([] ++ yZ c3.1 q1 60) ++ yZ c3.1 q2 360) ++ yZ c3.1 q3 6)) H := hP
  have hD : va_D A ((h, .inr (7, [.int 0, .ref q1, .ref q2, .ref q3, .null])) :: ((([] ++ yZ c3.1 q1 60) ++ yZ c3.1 q2 360) ++ yZ c3.1 q3 6)) := hD
  refine lv_aload_n hx hb dX7_init_29 rfl (lv_at hl 0 rfl) ?_
  refine lv_bipush (v := 6) hx hb dX7_init_30 (by decide) ?_
  refine y_newi C hP hD hS hA 6 (by decide) (by decide) (Nat.le_of_ble_eq_true rfl) (Nat.le_of_ble_eq_true rfl) (Nat.le_of_ble_eq_true rfl) dX7_init_32 (fun q4 H hP hD hS => ?_)
  have hP : va_P D vwCl ((h, .inr (7, [.int 0, .ref q1, .ref q2, .ref q3, .null])) :: (((([] ++ yZ c3.1 q1 60) ++ yZ c3.1 q2 360) ++ yZ c3.1 q3 6) ++ yZ c3.1 q4 6)) H := hP
  have hD : va_D A ((h, .inr (7, [.int 0, .ref q1, .ref q2, .ref q3, .null])) :: (((([] ++ yZ c3.1 q1 60) ++ yZ c3.1 q2 360) ++ yZ c3.1 q3 6) ++ yZ c3.1 q4 6)) := hD
  refine va_putF (D := D) (ci := 7) (v := .ref q4) (ty := .array .int) (C := RX7) (T := TX7) (N := 5) hx hb hts inlX7 tyX7 tyX7_ok nmX7 hown hK hP hD hS 0 rfl rfl 4 (by decide) (hts (Cond.fieldLink RX7 21 "SevenUnsaid$Seating" "best" "[I") (List.mem_of_getElem? (i := 116) (by decide +kernel))) (fun _ h9 => h9) rfl hin rfl (by decide +kernel) rfl rfl (Nat.le_of_ble_eq_true rfl) dX7_init_34 (fun H locs hP hD hS => ?_)
  have hP : va_P D vwCl ((h, .inr (7, [.int 0, .ref q1, .ref q2, .ref q3, .ref q4])) :: (((([] ++ yZ c3.1 q1 60) ++ yZ c3.1 q2 360) ++ yZ c3.1 q3 6) ++ yZ c3.1 q4 6)) H := hP
  have hD : va_D A ((h, .inr (7, [.int 0, .ref q1, .ref q2, .ref q3, .ref q4])) :: (((([] ++ yZ c3.1 q1 60) ++ yZ c3.1 q2 360) ++ yZ c3.1 q3 6) ++ yZ c3.1 q4 6)) := hD
  exact kk (q1, q2, q3, q4) _ _ _ _ dX7_init_37 hP hD hS
theorem dX10_init_0 : decode cX10_init 0 = .ok (.aload_n 0, 1) := by decide +kernel
theorem dX10_init_1 : decode cX10_init 1 = .ok (.invokespecial 5, 3) := by decide +kernel
theorem dX10_init_4 : decode cX10_init 4 = .ok (.aload_n 0, 1) := by decide +kernel
theorem dX10_init_5 : decode cX10_init 5 = .ok (.iconst (-1), 1) := by decide +kernel
theorem dX10_init_6 : decode cX10_init 6 = .ok (.putfield 11, 3) := by decide +kernel
theorem dX10_init_9 : decode cX10_init 9 = .ok (.aload_n 0, 1) := by decide +kernel
theorem dX10_init_10 : decode cX10_init 10 = .ok (.iconst (-1), 1) := by decide +kernel
theorem dX10_init_11 : decode cX10_init 11 = .ok (.putfield 15, 3) := by decide +kernel
theorem dX10_init_14 : decode cX10_init 14 = .ok (.aload_n 0, 1) := by decide +kernel
theorem dX10_init_15 : decode cX10_init 15 = .ok (.new 18, 3) := by decide +kernel
theorem dX10_init_18 : decode cX10_init 18 = .ok (.dup, 1) := by decide +kernel
theorem dX10_init_19 : decode cX10_init 19 = .ok (.invokespecial 20, 3) := by decide +kernel
theorem dX10_init_22 : decode cX10_init 22 = .ok (.putfield 21, 3) := by decide +kernel
theorem dX10_init_25 : decode cX10_init 25 = .ok (.aload_n 0, 1) := by decide +kernel
theorem dX10_init_26 : decode cX10_init 26 = .ok (.new 25, 3) := by decide +kernel
theorem dX10_init_29 : decode cX10_init 29 = .ok (.dup, 1) := by decide +kernel
theorem dX10_init_30 : decode cX10_init 30 = .ok (.invokespecial 27, 3) := by decide +kernel
theorem dX10_init_33 : decode cX10_init 33 = .ok (.putfield 28, 3) := by decide +kernel
theorem dX10_init_36 : decode cX10_init 36 = .ok (.aload_n 0, 1) := by decide +kernel
theorem dX10_init_37 : decode cX10_init 37 = .ok (.bipush 8, 2) := by decide +kernel
theorem dX10_init_39 : decode cX10_init 39 = .ok (.newarray .int, 2) := by decide +kernel
theorem dX10_init_41 : decode cX10_init 41 = .ok (.putfield 32, 3) := by decide +kernel
theorem dX10_init_44 : decode cX10_init 44 = .ok (.aload_n 0, 1) := by decide +kernel
theorem dX10_init_45 : decode cX10_init 45 = .ok (.bipush 29, 2) := by decide +kernel
theorem dX10_init_47 : decode cX10_init 47 = .ok (.newarray .int, 2) := by decide +kernel
theorem dX10_init_49 : decode cX10_init 49 = .ok (.putfield 36, 3) := by decide +kernel
theorem dX10_init_52 : decode cX10_init 52 = .ok (.return_, 1) := by decide +kernel
abbrev S10 : Type := (Nat × Unit) × (Nat × S6) × Nat × Nat
def w10 (c3 : yI3) (h : Nat) (u : S10) : va_W := ((h, .inr (10, [.int (-1), .int 0, .int 0, .int (-1), .int 0, .int 0, .int 0, .ref (u.1.1), .ref (u.2.1.1), .ref (u.2.2.1), .ref (u.2.2.2)])) :: (((([] ++ w1 c3 (u.1.1) (u.1.2)) ++ w6 c3 (u.2.1.1) (u.2.1.2)) ++ yZ c3.1 (u.2.2.1) 8) ++ yZ c3.1 (u.2.2.2) 29))
theorem yw10 : yWd yX10_init cX10_init 1 := ⟨(List.mem_of_getElem? (i := 100) (by decide +kernel)), (List.mem_of_getElem? (i := 99) (by decide +kernel)), (List.mem_of_getElem? (i := 23) (by decide +kernel)), rfl, by decide, by decide, by decide +kernel⟩
set_option maxHeartbeats 4000000 in
set_option maxRecDepth 100000 in
theorem yk10 (l : Launch) : yMk l yX10_init cX10_init 1 10 [.int 0, .int 0, .int 0, .int 0, .int 0, .int 0, .int 0, .null, .null, .null, .null] w10 2 7 73 := by
  refine yMk.of (by decide +kernel) rfl (by decide) ?_
  intro p e s m below meth c D c3 h A Q ls C hin hA hP hD hS hl kk
  have hown : s.vm.findClass RX10 = some m.cls := C.2.2.2.1
  have hx := C.1
  have hb := C.2.1
  have hml := C.2.2.1
  have hts := C.2.2.2.2.1
  have hK := C.2.2.2.2.2.1
  have hP : va_P D vwCl ((h, .inr (10, [.int 0, .int 0, .int 0, .int 0, .int 0, .int 0, .int 0, .null, .null, .null, .null])) :: []) s.heap := hP
  have hD : va_D A ((h, .inr (10, [.int 0, .int 0, .int 0, .int 0, .int 0, .int 0, .int 0, .null, .null, .null, .null])) :: []) := hD
  refine lv_aload_n hx hb dX10_init_0 rfl (lv_at hl 0 rfl) ?_
  refine W.objInit hx hb hown (hts (Cond.methodLink RX10 5 objectInit) (List.mem_of_getElem? (i := 101) (by decide +kernel))) (hts (Cond.instanceMethod objectInit) (List.mem_of_getElem? (i := 10) (by decide +kernel))) (hts _ (List.mem_of_getElem? (i := 11) (by decide +kernel))) rfl (by rw [hml]; exact hl.1) rfl dX10_init_1 (Nat.le_of_ble_eq_true rfl) (Nat.le_of_ble_eq_true rfl) ?_
  refine W.eq (g2 := F0 m 4 ls []) rfl ?_
  refine lv_aload_n hx hb dX10_init_4 rfl (lv_at hl 0 rfl) ?_
  refine lv_iconst (v := (-1)) hx hb dX10_init_5 (by decide) ?_
  refine va_put (D := D) (ci := 10) (v := .int (-1)) (ty := .int) (C := RX10) (T := TX10) (N := 11) hx hb hts inlX10 tyX10 tyX10_ok nmX10 hown hK hP hD hS 0 rfl rfl 0 (by decide) (hts (Cond.fieldLink RX10 11 "SevenUnsaid$Thought" "hard" "I") (List.mem_of_getElem? (i := 102) (by decide +kernel))) (fun _ h9 => h9) rfl (by decide +kernel) rfl rfl (Nat.le_of_ble_eq_true rfl) dX10_init_6 (fun H locs hP hD hS => ?_)
  have hP : va_P D vwCl ((h, .inr (10, [.int (-1), .int 0, .int 0, .int 0, .int 0, .int 0, .int 0, .null, .null, .null, .null])) :: []) H := hP
  have hD : va_D A ((h, .inr (10, [.int (-1), .int 0, .int 0, .int 0, .int 0, .int 0, .int 0, .null, .null, .null, .null])) :: []) := hD
  refine lv_aload_n hx hb dX10_init_9 rfl (lv_at hl 0 rfl) ?_
  refine lv_iconst (v := (-1)) hx hb dX10_init_10 (by decide) ?_
  refine va_put (D := D) (ci := 10) (v := .int (-1)) (ty := .int) (C := RX10) (T := TX10) (N := 11) hx hb hts inlX10 tyX10 tyX10_ok nmX10 hown hK hP hD hS 0 rfl rfl 3 (by decide) (hts (Cond.fieldLink RX10 15 "SevenUnsaid$Thought" "begins" "I") (List.mem_of_getElem? (i := 103) (by decide +kernel))) (fun _ h9 => h9) rfl (by decide +kernel) rfl rfl (Nat.le_of_ble_eq_true rfl) dX10_init_11 (fun H locs hP hD hS => ?_)
  have hP : va_P D vwCl ((h, .inr (10, [.int (-1), .int 0, .int 0, .int (-1), .int 0, .int 0, .int 0, .null, .null, .null, .null])) :: []) H := hP
  have hD : va_D A ((h, .inr (10, [.int (-1), .int 0, .int 0, .int (-1), .int 0, .int 0, .int 0, .null, .null, .null, .null])) :: []) := hD
  refine lv_aload_n hx hb dX10_init_14 rfl (lv_at hl 0 rfl) ?_
  refine va_new (ci := 1) (fs := [.int 0, .int 0, .int 0, .int 0, .int 0, .int 0, .int 0, .int 0]) (C := RX1) (T := TX1) (N := 8) hx hb hts inlX1 tyX1 tyX1_ok hown (hts (Cond.classLink RX10 18 RX1) (List.mem_of_getElem? (i := 104) (by decide +kernel))) (hts (Cond.instantiable RX1 8) (List.mem_of_getElem? (i := 46) (by decide +kernel))) (hts (Cond.initialized RX1) (List.mem_of_getElem? (i := 47) (by decide +kernel))) hK hP hD hS hA rfl (by decide +kernel) (Nat.le_of_ble_eq_true rfl) (Nat.le_of_ble_eq_true rfl) dX10_init_15 (fun q1 H hP hD hS => ?_)
  refine lv_dup hx hb dX10_init_18 rfl ?_
  refine y_initN C (yk1 l) hP hD hS hA hl.1 yw1 (List.mem_of_getElem? (i := 8) rfl) ⟨(Nat.le_of_ble_eq_true rfl), (Nat.le_of_ble_eq_true rfl)⟩ (Nat.le_of_ble_eq_true rfl) dX10_init_19 ⟨(Nat.le_of_ble_eq_true rfl), (Nat.le_of_ble_eq_true rfl)⟩ (fun u1 H locs hP hD hS => ?_)
  have hP : va_P D vwCl ((h, .inr (10, [.int (-1), .int 0, .int 0, .int (-1), .int 0, .int 0, .int 0, .null, .null, .null, .null])) :: ([] ++ w1 c3 q1 u1)) H := hP
  have hD : va_D A ((h, .inr (10, [.int (-1), .int 0, .int 0, .int (-1), .int 0, .int 0, .int 0, .null, .null, .null, .null])) :: ([] ++ w1 c3 q1 u1)) := hD
  refine va_putF (D := D) (ci := 10) (v := .ref q1) (ty := .object "SevenUnsaid$Count") (C := RX10) (T := TX10) (N := 11) hx hb hts inlX10 tyX10 tyX10_ok nmX10 hown hK hP hD hS 0 rfl rfl 7 (by decide) (hts (Cond.fieldLink RX10 21 "SevenUnsaid$Thought" "here" "LSevenUnsaid$Count;") (List.mem_of_getElem? (i := 105) (by decide +kernel))) (fun _ h9 => h9) rfl hin rfl (by decide +kernel) rfl rfl (Nat.le_of_ble_eq_true rfl) dX10_init_22 (fun H locs hP hD hS => ?_)
  have hP : va_P D vwCl ((h, .inr (10, [.int (-1), .int 0, .int 0, .int (-1), .int 0, .int 0, .int 0, .ref q1, .null, .null, .null])) :: ([] ++ w1 c3 q1 u1)) H := hP
  have hD : va_D A ((h, .inr (10, [.int (-1), .int 0, .int 0, .int (-1), .int 0, .int 0, .int 0, .ref q1, .null, .null, .null])) :: ([] ++ w1 c3 q1 u1)) := hD
  refine lv_aload_n hx hb dX10_init_25 rfl (lv_at hl 0 rfl) ?_
  refine va_new (ci := 6) (fs := [.int 0, .null, .null, .null, .int 0, .int 0, .int 0]) (C := RX6) (T := TX6) (N := 7) hx hb hts inlX6 tyX6 tyX6_ok hown (hts (Cond.classLink RX10 25 RX6) (List.mem_of_getElem? (i := 106) (by decide +kernel))) (hts (Cond.instantiable RX6 7) (List.mem_of_getElem? (i := 42) (by decide +kernel))) (hts (Cond.initialized RX6) (List.mem_of_getElem? (i := 43) (by decide +kernel))) hK hP hD hS hA rfl (by decide +kernel) (Nat.le_of_ble_eq_true rfl) (Nat.le_of_ble_eq_true rfl) dX10_init_26 (fun q2 H hP hD hS => ?_)
  refine lv_dup hx hb dX10_init_29 rfl ?_
  refine y_initN C (yk6 l) hP hD hS hA hl.1 yw6 (List.mem_of_getElem? (i := 9) rfl) ⟨(Nat.le_of_ble_eq_true rfl), (Nat.le_of_ble_eq_true rfl)⟩ (Nat.le_of_ble_eq_true rfl) dX10_init_30 ⟨(Nat.le_of_ble_eq_true rfl), (Nat.le_of_ble_eq_true rfl)⟩ (fun u2 H locs hP hD hS => ?_)
  have hP : va_P D vwCl ((h, .inr (10, [.int (-1), .int 0, .int 0, .int (-1), .int 0, .int 0, .int 0, .ref q1, .null, .null, .null])) :: (([] ++ w1 c3 q1 u1) ++ w6 c3 q2 u2)) H := hP
  have hD : va_D A ((h, .inr (10, [.int (-1), .int 0, .int 0, .int (-1), .int 0, .int 0, .int 0, .ref q1, .null, .null, .null])) :: (([] ++ w1 c3 q1 u1) ++ w6 c3 q2 u2)) := hD
  refine va_putF (D := D) (ci := 10) (v := .ref q2) (ty := .object "SevenUnsaid$Rules") (C := RX10) (T := TX10) (N := 11) hx hb hts inlX10 tyX10 tyX10_ok nmX10 hown hK hP hD hS 0 rfl rfl 8 (by decide) (hts (Cond.fieldLink RX10 28 "SevenUnsaid$Thought" "more" "LSevenUnsaid$Rules;") (List.mem_of_getElem? (i := 107) (by decide +kernel))) (fun _ h9 => h9) rfl hin rfl (by decide +kernel) rfl rfl (Nat.le_of_ble_eq_true rfl) dX10_init_33 (fun H locs hP hD hS => ?_)
  have hP : va_P D vwCl ((h, .inr (10, [.int (-1), .int 0, .int 0, .int (-1), .int 0, .int 0, .int 0, .ref q1, .ref q2, .null, .null])) :: (([] ++ w1 c3 q1 u1) ++ w6 c3 q2 u2)) H := hP
  have hD : va_D A ((h, .inr (10, [.int (-1), .int 0, .int 0, .int (-1), .int 0, .int 0, .int 0, .ref q1, .ref q2, .null, .null])) :: (([] ++ w1 c3 q1 u1) ++ w6 c3 q2 u2)) := hD
  refine lv_aload_n hx hb dX10_init_36 rfl (lv_at hl 0 rfl) ?_
  refine lv_bipush (v := 8) hx hb dX10_init_37 (by decide) ?_
  refine y_newi C hP hD hS hA 8 (by decide) (by decide) (Nat.le_of_ble_eq_true rfl) (Nat.le_of_ble_eq_true rfl) (Nat.le_of_ble_eq_true rfl) dX10_init_39 (fun q3 H hP hD hS => ?_)
  have hP : va_P D vwCl ((h, .inr (10, [.int (-1), .int 0, .int 0, .int (-1), .int 0, .int 0, .int 0, .ref q1, .ref q2, .null, .null])) :: ((([] ++ w1 c3 q1 u1) ++ w6 c3 q2 u2) ++ yZ c3.1 q3 8)) H := hP
  have hD : va_D A ((h, .inr (10, [.int (-1), .int 0, .int 0, .int (-1), .int 0, .int 0, .int 0, .ref q1, .ref q2, .null, .null])) :: ((([] ++ w1 c3 q1 u1) ++ w6 c3 q2 u2) ++ yZ c3.1 q3 8)) := hD
  refine va_putF (D := D) (ci := 10) (v := .ref q3) (ty := .array .int) (C := RX10) (T := TX10) (N := 11) hx hb hts inlX10 tyX10 tyX10_ok nmX10 hown hK hP hD hS 0 rfl rfl 9 (by decide) (hts (Cond.fieldLink RX10 32 "SevenUnsaid$Thought" "wordsOn" "[I") (List.mem_of_getElem? (i := 108) (by decide +kernel))) (fun _ h9 => h9) rfl hin rfl (by decide +kernel) rfl rfl (Nat.le_of_ble_eq_true rfl) dX10_init_41 (fun H locs hP hD hS => ?_)
  have hP : va_P D vwCl ((h, .inr (10, [.int (-1), .int 0, .int 0, .int (-1), .int 0, .int 0, .int 0, .ref q1, .ref q2, .ref q3, .null])) :: ((([] ++ w1 c3 q1 u1) ++ w6 c3 q2 u2) ++ yZ c3.1 q3 8)) H := hP
  have hD : va_D A ((h, .inr (10, [.int (-1), .int 0, .int 0, .int (-1), .int 0, .int 0, .int 0, .ref q1, .ref q2, .ref q3, .null])) :: ((([] ++ w1 c3 q1 u1) ++ w6 c3 q2 u2) ++ yZ c3.1 q3 8)) := hD
  refine lv_aload_n hx hb dX10_init_44 rfl (lv_at hl 0 rfl) ?_
  refine lv_bipush (v := 29) hx hb dX10_init_45 (by decide) ?_
  refine y_newi C hP hD hS hA 29 (by decide) (by decide) (Nat.le_of_ble_eq_true rfl) (Nat.le_of_ble_eq_true rfl) (Nat.le_of_ble_eq_true rfl) dX10_init_47 (fun q4 H hP hD hS => ?_)
  have hP : va_P D vwCl ((h, .inr (10, [.int (-1), .int 0, .int 0, .int (-1), .int 0, .int 0, .int 0, .ref q1, .ref q2, .ref q3, .null])) :: (((([] ++ w1 c3 q1 u1) ++ w6 c3 q2 u2) ++ yZ c3.1 q3 8) ++ yZ c3.1 q4 29)) H := hP
  have hD : va_D A ((h, .inr (10, [.int (-1), .int 0, .int 0, .int (-1), .int 0, .int 0, .int 0, .ref q1, .ref q2, .ref q3, .null])) :: (((([] ++ w1 c3 q1 u1) ++ w6 c3 q2 u2) ++ yZ c3.1 q3 8) ++ yZ c3.1 q4 29)) := hD
  refine va_putF (D := D) (ci := 10) (v := .ref q4) (ty := .array .int) (C := RX10) (T := TX10) (N := 11) hx hb hts inlX10 tyX10 tyX10_ok nmX10 hown hK hP hD hS 0 rfl rfl 10 (by decide) (hts (Cond.fieldLink RX10 36 "SevenUnsaid$Thought" "taken" "[I") (List.mem_of_getElem? (i := 109) (by decide +kernel))) (fun _ h9 => h9) rfl hin rfl (by decide +kernel) rfl rfl (Nat.le_of_ble_eq_true rfl) dX10_init_49 (fun H locs hP hD hS => ?_)
  have hP : va_P D vwCl ((h, .inr (10, [.int (-1), .int 0, .int 0, .int (-1), .int 0, .int 0, .int 0, .ref q1, .ref q2, .ref q3, .ref q4])) :: (((([] ++ w1 c3 q1 u1) ++ w6 c3 q2 u2) ++ yZ c3.1 q3 8) ++ yZ c3.1 q4 29)) H := hP
  have hD : va_D A ((h, .inr (10, [.int (-1), .int 0, .int 0, .int (-1), .int 0, .int 0, .int 0, .ref q1, .ref q2, .ref q3, .ref q4])) :: (((([] ++ w1 c3 q1 u1) ++ w6 c3 q2 u2) ++ yZ c3.1 q3 8) ++ yZ c3.1 q4 29)) := hD
  exact kk ((q1, u1), (q2, u2), q3, q4) _ _ _ _ dX10_init_52 hP hD hS
theorem dX2_init_0 : decode cX2_init 0 = .ok (.aload_n 0, 1) := by decide +kernel
theorem dX2_init_1 : decode cX2_init 1 = .ok (.invokespecial 3, 3) := by decide +kernel
theorem dX2_init_4 : decode cX2_init 4 = .ok (.aload_n 0, 1) := by decide +kernel
theorem dX2_init_5 : decode cX2_init 5 = .ok (.bipush 10, 2) := by decide +kernel
theorem dX2_init_7 : decode cX2_init 7 = .ok (.anewarray 9, 3) := by decide +kernel
theorem dX2_init_10 : decode cX2_init 10 = .ok (.putfield 11, 3) := by decide +kernel
theorem dX2_init_13 : decode cX2_init 13 = .ok (.aload_n 0, 1) := by decide +kernel
theorem dX2_init_14 : decode cX2_init 14 = .ok (.bipush 10, 2) := by decide +kernel
theorem dX2_init_16 : decode cX2_init 16 = .ok (.newarray .int, 2) := by decide +kernel
theorem dX2_init_18 : decode cX2_init 18 = .ok (.putfield 17, 3) := by decide +kernel
theorem dX2_init_21 : decode cX2_init 21 = .ok (.aload_n 0, 1) := by decide +kernel
theorem dX2_init_22 : decode cX2_init 22 = .ok (.bipush 10, 2) := by decide +kernel
theorem dX2_init_24 : decode cX2_init 24 = .ok (.newarray .int, 2) := by decide +kernel
theorem dX2_init_26 : decode cX2_init 26 = .ok (.putfield 21, 3) := by decide +kernel
theorem dX2_init_29 : decode cX2_init 29 = .ok (.aload_n 0, 1) := by decide +kernel
theorem dX2_init_30 : decode cX2_init 30 = .ok (.bipush 10, 2) := by decide +kernel
theorem dX2_init_32 : decode cX2_init 32 = .ok (.newarray .int, 2) := by decide +kernel
theorem dX2_init_34 : decode cX2_init 34 = .ok (.putfield 24, 3) := by decide +kernel
theorem dX2_init_37 : decode cX2_init 37 = .ok (.iconst 0, 1) := by decide +kernel
theorem dX2_init_38 : decode cX2_init 38 = .ok (.istore_n 1, 1) := by decide +kernel
theorem dX2_init_39 : decode cX2_init 39 = .ok (.iload_n 1, 1) := by decide +kernel
theorem dX2_init_40 : decode cX2_init 40 = .ok (.bipush 10, 2) := by decide +kernel
theorem dX2_init_42 : decode cX2_init 42 = .ok (.if_icmp .ge 22, 3) := by decide +kernel
theorem dX2_init_45 : decode cX2_init 45 = .ok (.aload_n 0, 1) := by decide +kernel
theorem dX2_init_46 : decode cX2_init 46 = .ok (.getfield 11, 3) := by decide +kernel
theorem dX2_init_49 : decode cX2_init 49 = .ok (.iload_n 1, 1) := by decide +kernel
theorem dX2_init_50 : decode cX2_init 50 = .ok (.new 9, 3) := by decide +kernel
theorem dX2_init_53 : decode cX2_init 53 = .ok (.dup, 1) := by decide +kernel
theorem dX2_init_54 : decode cX2_init 54 = .ok (.invokespecial 27, 3) := by decide +kernel
theorem dX2_init_57 : decode cX2_init 57 = .ok (.aastore, 1) := by decide +kernel
theorem dX2_init_58 : decode cX2_init 58 = .ok (.iinc 1 1, 3) := by decide +kernel
theorem dX2_init_61 : decode cX2_init 61 = .ok (.goto (-22), 3) := by decide +kernel
theorem dX2_init_64 : decode cX2_init 64 = .ok (.return_, 1) := by decide +kernel
abbrev S2 : Type := Nat × Nat × Nat × Nat × (Nat × Unit) × (Nat × Unit) × (Nat × Unit) × (Nat × Unit) × (Nat × Unit) × (Nat × Unit) × (Nat × Unit) × (Nat × Unit) × (Nat × Unit) × (Nat × Unit)
def w2 (c3 : yI3) (h : Nat) (u : S2) : va_W := ((h, .inr (2, [.int 0, .int 0, .ref (u.1), .ref (u.2.1), .ref (u.2.2.1), .ref (u.2.2.2.1)])) :: (((((((((((((([] ++ [((u.1), .inl (c3.2.2, 10, .inr (.inr (.inr (.inr (va_up (va_up (va_up (va_up (va_up (va_up (va_up (va_up (va_up (va_up (fun _ => none) 0 (some (u.2.2.2.2.1.1))) 1 (some (u.2.2.2.2.2.1.1))) 2 (some (u.2.2.2.2.2.2.1.1))) 3 (some (u.2.2.2.2.2.2.2.1.1))) 4 (some (u.2.2.2.2.2.2.2.2.1.1))) 5 (some (u.2.2.2.2.2.2.2.2.2.1.1))) 6 (some (u.2.2.2.2.2.2.2.2.2.2.1.1))) 7 (some (u.2.2.2.2.2.2.2.2.2.2.2.1.1))) 8 (some (u.2.2.2.2.2.2.2.2.2.2.2.2.1.1))) 9 (some (u.2.2.2.2.2.2.2.2.2.2.2.2.2.1))))))))]) ++ yZ c3.1 (u.2.1) 10) ++ yZ c3.1 (u.2.2.1) 10) ++ yZ c3.1 (u.2.2.2.1) 10) ++ w1 c3 (u.2.2.2.2.1.1) (u.2.2.2.2.1.2)) ++ w1 c3 (u.2.2.2.2.2.1.1) (u.2.2.2.2.2.1.2)) ++ w1 c3 (u.2.2.2.2.2.2.1.1) (u.2.2.2.2.2.2.1.2)) ++ w1 c3 (u.2.2.2.2.2.2.2.1.1) (u.2.2.2.2.2.2.2.1.2)) ++ w1 c3 (u.2.2.2.2.2.2.2.2.1.1) (u.2.2.2.2.2.2.2.2.1.2)) ++ w1 c3 (u.2.2.2.2.2.2.2.2.2.1.1) (u.2.2.2.2.2.2.2.2.2.1.2)) ++ w1 c3 (u.2.2.2.2.2.2.2.2.2.2.1.1) (u.2.2.2.2.2.2.2.2.2.2.1.2)) ++ w1 c3 (u.2.2.2.2.2.2.2.2.2.2.2.1.1) (u.2.2.2.2.2.2.2.2.2.2.2.1.2)) ++ w1 c3 (u.2.2.2.2.2.2.2.2.2.2.2.2.1.1) (u.2.2.2.2.2.2.2.2.2.2.2.2.1.2)) ++ w1 c3 (u.2.2.2.2.2.2.2.2.2.2.2.2.2.1) (u.2.2.2.2.2.2.2.2.2.2.2.2.2.2)))
theorem yw2 : yWd yX2_init cX2_init 2 := ⟨(List.mem_of_getElem? (i := 92) (by decide +kernel)), (List.mem_of_getElem? (i := 91) (by decide +kernel)), (List.mem_of_getElem? (i := 19) (by decide +kernel)), rfl, by decide, by decide, by decide +kernel⟩
set_option maxHeartbeats 4000000 in
set_option maxRecDepth 100000 in
theorem yk2 (l : Launch) : yMk l yX2_init cX2_init 2 2 [.int 0, .int 0, .null, .null, .null, .null] w2 2 14 120 := by
  refine yMk.of (by decide +kernel) rfl (by decide) ?_
  intro p e s m below meth c D c3 h A Q ls C hin hA hP hD hS hl kk
  have hown : s.vm.findClass RX2 = some m.cls := C.2.2.2.1
  have hx := C.1
  have hb := C.2.1
  have hml := C.2.2.1
  have hts := C.2.2.2.2.1
  have hK := C.2.2.2.2.2.1
  have hP : va_P D vwCl ((h, .inr (2, [.int 0, .int 0, .null, .null, .null, .null])) :: []) s.heap := hP
  have hD : va_D A ((h, .inr (2, [.int 0, .int 0, .null, .null, .null, .null])) :: []) := hD
  refine lv_aload_n hx hb dX2_init_0 rfl (lv_at hl 0 rfl) ?_
  refine W.objInit hx hb hown (hts (Cond.methodLink RX2 3 objectInit) (List.mem_of_getElem? (i := 93) (by decide +kernel))) (hts (Cond.instanceMethod objectInit) (List.mem_of_getElem? (i := 10) (by decide +kernel))) (hts _ (List.mem_of_getElem? (i := 11) (by decide +kernel))) rfl (by rw [hml]; exact hl.1) rfl dX2_init_1 (Nat.le_of_ble_eq_true rfl) (Nat.le_of_ble_eq_true rfl) ?_
  refine W.eq (g2 := F0 m 4 ls []) rfl ?_
  refine lv_aload_n hx hb dX2_init_4 rfl (lv_at hl 0 rfl) ?_
  refine lv_bipush (v := 10) hx hb dX2_init_5 (by decide) ?_
  refine y_newq C hP hD hS hA (List.mem_of_getElem? (i := 94) (by decide +kernel)) 10 (by decide) (by decide) (Nat.le_of_ble_eq_true rfl) (Nat.le_of_ble_eq_true rfl) (Nat.le_of_ble_eq_true rfl) dX2_init_7 (fun q1 H hP hD hS => ?_)
  have hP : va_P D vwCl ((h, .inr (2, [.int 0, .int 0, .null, .null, .null, .null])) :: ([] ++ [(q1, .inl (c3.2.2, 10, .inr (.inr (.inr (.inr (fun _ => none))))))])) H := hP
  have hD : va_D A ((h, .inr (2, [.int 0, .int 0, .null, .null, .null, .null])) :: ([] ++ [(q1, .inl (c3.2.2, 10, .inr (.inr (.inr (.inr (fun _ => none))))))])) := hD
  refine va_putF (D := D) (ci := 2) (v := .ref q1) (ty := .array (.object "SevenUnsaid$Count")) (C := RX2) (T := TX2) (N := 6) hx hb hts inlX2 tyX2 tyX2_ok nmX2 hown hK hP hD hS 0 rfl rfl 2 (by decide) (hts (Cond.fieldLink RX2 11 "SevenUnsaid$History" "counts" "[LSevenUnsaid$Count;") (List.mem_of_getElem? (i := 95) (by decide +kernel))) (fun _ h9 => h9) rfl hin rfl (by decide +kernel) rfl rfl (Nat.le_of_ble_eq_true rfl) dX2_init_10 (fun H locs hP hD hS => ?_)
  have hP : va_P D vwCl ((h, .inr (2, [.int 0, .int 0, .ref q1, .null, .null, .null])) :: ([] ++ [(q1, .inl (c3.2.2, 10, .inr (.inr (.inr (.inr (fun _ => none))))))])) H := hP
  have hD : va_D A ((h, .inr (2, [.int 0, .int 0, .ref q1, .null, .null, .null])) :: ([] ++ [(q1, .inl (c3.2.2, 10, .inr (.inr (.inr (.inr (fun _ => none))))))])) := hD
  refine lv_aload_n hx hb dX2_init_13 rfl (lv_at hl 0 rfl) ?_
  refine lv_bipush (v := 10) hx hb dX2_init_14 (by decide) ?_
  refine y_newi C hP hD hS hA 10 (by decide) (by decide) (Nat.le_of_ble_eq_true rfl) (Nat.le_of_ble_eq_true rfl) (Nat.le_of_ble_eq_true rfl) dX2_init_16 (fun q2 H hP hD hS => ?_)
  have hP : va_P D vwCl ((h, .inr (2, [.int 0, .int 0, .ref q1, .null, .null, .null])) :: (([] ++ [(q1, .inl (c3.2.2, 10, .inr (.inr (.inr (.inr (fun _ => none))))))]) ++ yZ c3.1 q2 10)) H := hP
  have hD : va_D A ((h, .inr (2, [.int 0, .int 0, .ref q1, .null, .null, .null])) :: (([] ++ [(q1, .inl (c3.2.2, 10, .inr (.inr (.inr (.inr (fun _ => none))))))]) ++ yZ c3.1 q2 10)) := hD
  refine va_putF (D := D) (ci := 2) (v := .ref q2) (ty := .array .int) (C := RX2) (T := TX2) (N := 6) hx hb hts inlX2 tyX2 tyX2_ok nmX2 hown hK hP hD hS 0 rfl rfl 3 (by decide) (hts (Cond.fieldLink RX2 17 "SevenUnsaid$History" "persons" "[I") (List.mem_of_getElem? (i := 96) (by decide +kernel))) (fun _ h9 => h9) rfl hin rfl (by decide +kernel) rfl rfl (Nat.le_of_ble_eq_true rfl) dX2_init_18 (fun H locs hP hD hS => ?_)
  have hP : va_P D vwCl ((h, .inr (2, [.int 0, .int 0, .ref q1, .ref q2, .null, .null])) :: (([] ++ [(q1, .inl (c3.2.2, 10, .inr (.inr (.inr (.inr (fun _ => none))))))]) ++ yZ c3.1 q2 10)) H := hP
  have hD : va_D A ((h, .inr (2, [.int 0, .int 0, .ref q1, .ref q2, .null, .null])) :: (([] ++ [(q1, .inl (c3.2.2, 10, .inr (.inr (.inr (.inr (fun _ => none))))))]) ++ yZ c3.1 q2 10)) := hD
  refine lv_aload_n hx hb dX2_init_21 rfl (lv_at hl 0 rfl) ?_
  refine lv_bipush (v := 10) hx hb dX2_init_22 (by decide) ?_
  refine y_newi C hP hD hS hA 10 (by decide) (by decide) (Nat.le_of_ble_eq_true rfl) (Nat.le_of_ble_eq_true rfl) (Nat.le_of_ble_eq_true rfl) dX2_init_24 (fun q3 H hP hD hS => ?_)
  have hP : va_P D vwCl ((h, .inr (2, [.int 0, .int 0, .ref q1, .ref q2, .null, .null])) :: ((([] ++ [(q1, .inl (c3.2.2, 10, .inr (.inr (.inr (.inr (fun _ => none))))))]) ++ yZ c3.1 q2 10) ++ yZ c3.1 q3 10)) H := hP
  have hD : va_D A ((h, .inr (2, [.int 0, .int 0, .ref q1, .ref q2, .null, .null])) :: ((([] ++ [(q1, .inl (c3.2.2, 10, .inr (.inr (.inr (.inr (fun _ => none))))))]) ++ yZ c3.1 q2 10) ++ yZ c3.1 q3 10)) := hD
  refine va_putF (D := D) (ci := 2) (v := .ref q3) (ty := .array .int) (C := RX2) (T := TX2) (N := 6) hx hb hts inlX2 tyX2 tyX2_ok nmX2 hown hK hP hD hS 0 rfl rfl 4 (by decide) (hts (Cond.fieldLink RX2 21 "SevenUnsaid$History" "glasses" "[I") (List.mem_of_getElem? (i := 97) (by decide +kernel))) (fun _ h9 => h9) rfl hin rfl (by decide +kernel) rfl rfl (Nat.le_of_ble_eq_true rfl) dX2_init_26 (fun H locs hP hD hS => ?_)
  have hP : va_P D vwCl ((h, .inr (2, [.int 0, .int 0, .ref q1, .ref q2, .ref q3, .null])) :: ((([] ++ [(q1, .inl (c3.2.2, 10, .inr (.inr (.inr (.inr (fun _ => none))))))]) ++ yZ c3.1 q2 10) ++ yZ c3.1 q3 10)) H := hP
  have hD : va_D A ((h, .inr (2, [.int 0, .int 0, .ref q1, .ref q2, .ref q3, .null])) :: ((([] ++ [(q1, .inl (c3.2.2, 10, .inr (.inr (.inr (.inr (fun _ => none))))))]) ++ yZ c3.1 q2 10) ++ yZ c3.1 q3 10)) := hD
  refine lv_aload_n hx hb dX2_init_29 rfl (lv_at hl 0 rfl) ?_
  refine lv_bipush (v := 10) hx hb dX2_init_30 (by decide) ?_
  refine y_newi C hP hD hS hA 10 (by decide) (by decide) (Nat.le_of_ble_eq_true rfl) (Nat.le_of_ble_eq_true rfl) (Nat.le_of_ble_eq_true rfl) dX2_init_32 (fun q4 H hP hD hS => ?_)
  have hP : va_P D vwCl ((h, .inr (2, [.int 0, .int 0, .ref q1, .ref q2, .ref q3, .null])) :: (((([] ++ [(q1, .inl (c3.2.2, 10, .inr (.inr (.inr (.inr (fun _ => none))))))]) ++ yZ c3.1 q2 10) ++ yZ c3.1 q3 10) ++ yZ c3.1 q4 10)) H := hP
  have hD : va_D A ((h, .inr (2, [.int 0, .int 0, .ref q1, .ref q2, .ref q3, .null])) :: (((([] ++ [(q1, .inl (c3.2.2, 10, .inr (.inr (.inr (.inr (fun _ => none))))))]) ++ yZ c3.1 q2 10) ++ yZ c3.1 q3 10) ++ yZ c3.1 q4 10)) := hD
  refine va_putF (D := D) (ci := 2) (v := .ref q4) (ty := .array .int) (C := RX2) (T := TX2) (N := 6) hx hb hts inlX2 tyX2 tyX2_ok nmX2 hown hK hP hD hS 0 rfl rfl 5 (by decide) (hts (Cond.fieldLink RX2 24 "SevenUnsaid$History" "lines" "[I") (List.mem_of_getElem? (i := 98) (by decide +kernel))) (fun _ h9 => h9) rfl hin rfl (by decide +kernel) rfl rfl (Nat.le_of_ble_eq_true rfl) dX2_init_34 (fun H locs hP hD hS => ?_)
  have hP : va_P D vwCl ((h, .inr (2, [.int 0, .int 0, .ref q1, .ref q2, .ref q3, .ref q4])) :: (((([] ++ [(q1, .inl (c3.2.2, 10, .inr (.inr (.inr (.inr (fun _ => none))))))]) ++ yZ c3.1 q2 10) ++ yZ c3.1 q3 10) ++ yZ c3.1 q4 10)) H := hP
  have hD : va_D A ((h, .inr (2, [.int 0, .int 0, .ref q1, .ref q2, .ref q3, .ref q4])) :: (((([] ++ [(q1, .inl (c3.2.2, 10, .inr (.inr (.inr (.inr (fun _ => none))))))]) ++ yZ c3.1 q2 10) ++ yZ c3.1 q3 10) ++ yZ c3.1 q4 10)) := hD
  refine lv_iconst (v := 0) hx hb dX2_init_37 (by decide) ?_
  refine lv_istore_n (lv' := [(1, .int 0), (0, .ref h)]) hx hb dX2_init_38 rfl hl (by decide) rfl (fun ls hl => ?_)
  refine lv_iload_n hx hb dX2_init_39 rfl (lv_at hl 0 rfl) ?_
  refine lv_bipush (v := 10) hx hb dX2_init_40 (by decide) ?_
  refine lv_icmp_ge (tgt := 64) hx hb dX2_init_42 (by decide) (fun z => absurd z (by decide)) (fun _ => ?_)
  refine lv_aload_n hx hb dX2_init_45 rfl (lv_at hl 1 rfl) ?_
  refine va_get (D := D) (ci := 2) (v := .ref q1) (C := RX2) (T := TX2) (N := 6) hx hb hts inlX2 hown hK hP 0 rfl rfl 2 (by decide) (hts (Cond.fieldLink RX2 11 "SevenUnsaid$History" "counts" "[LSevenUnsaid$Count;") (List.mem_of_getElem? (i := 95) (by decide +kernel))) (fun _ h9 => h9) rfl dX2_init_46 ?_
  refine lv_iload_n hx hb dX2_init_49 rfl (lv_at hl 0 rfl) ?_
  refine va_new (ci := 1) (fs := [.int 0, .int 0, .int 0, .int 0, .int 0, .int 0, .int 0, .int 0]) (C := RX1) (T := TX1) (N := 8) hx hb hts inlX1 tyX1 tyX1_ok hown (hts (Cond.classLink RX2 9 RX1) (List.mem_of_getElem? (i := 94) (by decide +kernel))) (hts (Cond.instantiable RX1 8) (List.mem_of_getElem? (i := 46) (by decide +kernel))) (hts (Cond.initialized RX1) (List.mem_of_getElem? (i := 47) (by decide +kernel))) hK hP hD hS hA rfl (by decide +kernel) (Nat.le_of_ble_eq_true rfl) (Nat.le_of_ble_eq_true rfl) dX2_init_50 (fun q5 H hP hD hS => ?_)
  refine lv_dup hx hb dX2_init_53 rfl ?_
  refine y_initN C (yk1 l) hP hD hS hA hl.1 yw1 (List.mem_of_getElem? (i := 6) rfl) ⟨(Nat.le_of_ble_eq_true rfl), (Nat.le_of_ble_eq_true rfl)⟩ (Nat.le_of_ble_eq_true rfl) dX2_init_54 ⟨(Nat.le_of_ble_eq_true rfl), (Nat.le_of_ble_eq_true rfl)⟩ (fun u5 H locs hP hD hS => ?_)
  have hP : va_P D vwCl ((h, .inr (2, [.int 0, .int 0, .ref q1, .ref q2, .ref q3, .ref q4])) :: ((((([] ++ [(q1, .inl (c3.2.2, 10, .inr (.inr (.inr (.inr (fun _ => none))))))]) ++ yZ c3.1 q2 10) ++ yZ c3.1 q3 10) ++ yZ c3.1 q4 10) ++ w1 c3 q5 u5)) H := hP
  have hD : va_D A ((h, .inr (2, [.int 0, .int 0, .ref q1, .ref q2, .ref q3, .ref q4])) :: ((((([] ++ [(q1, .inl (c3.2.2, 10, .inr (.inr (.inr (.inr (fun _ => none))))))]) ++ yZ c3.1 q2 10) ++ yZ c3.1 q3 10) ++ yZ c3.1 q4 10) ++ w1 c3 q5 u5)) := hD
  refine va_astq hx hb hK hP hD hS 1 2 5 1 (r := (RX1, TX1, 8)) rfl rfl rfl rfl (vp_in_iff.mpr (by decide)) dX2_init_57 (fun H locs hP hD hS => ?_)
  have hP : va_P D vwCl ((h, .inr (2, [.int 0, .int 0, .ref q1, .ref q2, .ref q3, .ref q4])) :: ((((([] ++ [(q1, .inl (c3.2.2, 10, .inr (.inr (.inr (.inr (va_up (fun _ => none) 0 (some q5)))))))]) ++ yZ c3.1 q2 10) ++ yZ c3.1 q3 10) ++ yZ c3.1 q4 10) ++ w1 c3 q5 u5)) H := hP
  have hD : va_D A ((h, .inr (2, [.int 0, .int 0, .ref q1, .ref q2, .ref q3, .ref q4])) :: ((((([] ++ [(q1, .inl (c3.2.2, 10, .inr (.inr (.inr (.inr (va_up (fun _ => none) 0 (some q5)))))))]) ++ yZ c3.1 q2 10) ++ yZ c3.1 q3 10) ++ yZ c3.1 q4 10) ++ w1 c3 q5 u5)) := hD
  refine lv_iinc (v := 1) (lv' := [(1, .int 1), (0, .ref h)]) hx hb dX2_init_58 hl (k := 0) rfl (by decide) (by decide) rfl (fun ls hl => ?_)
  refine lv_goto (tgt := 39) hx hb dX2_init_61 (by decide) ?_
  refine lv_iload_n hx hb dX2_init_39 rfl (lv_at hl 0 rfl) ?_
  refine lv_bipush (v := 10) hx hb dX2_init_40 (by decide) ?_
  refine lv_icmp_ge (tgt := 64) hx hb dX2_init_42 (by decide) (fun z => absurd z (by decide)) (fun _ => ?_)
  refine lv_aload_n hx hb dX2_init_45 rfl (lv_at hl 1 rfl) ?_
  refine va_get (D := D) (ci := 2) (v := .ref q1) (C := RX2) (T := TX2) (N := 6) hx hb hts inlX2 hown hK hP 0 rfl rfl 2 (by decide) (hts (Cond.fieldLink RX2 11 "SevenUnsaid$History" "counts" "[LSevenUnsaid$Count;") (List.mem_of_getElem? (i := 95) (by decide +kernel))) (fun _ h9 => h9) rfl dX2_init_46 ?_
  refine lv_iload_n hx hb dX2_init_49 rfl (lv_at hl 0 rfl) ?_
  refine va_new (ci := 1) (fs := [.int 0, .int 0, .int 0, .int 0, .int 0, .int 0, .int 0, .int 0]) (C := RX1) (T := TX1) (N := 8) hx hb hts inlX1 tyX1 tyX1_ok hown (hts (Cond.classLink RX2 9 RX1) (List.mem_of_getElem? (i := 94) (by decide +kernel))) (hts (Cond.instantiable RX1 8) (List.mem_of_getElem? (i := 46) (by decide +kernel))) (hts (Cond.initialized RX1) (List.mem_of_getElem? (i := 47) (by decide +kernel))) hK hP hD hS hA rfl (by decide +kernel) (Nat.le_of_ble_eq_true rfl) (Nat.le_of_ble_eq_true rfl) dX2_init_50 (fun q6 H hP hD hS => ?_)
  refine lv_dup hx hb dX2_init_53 rfl ?_
  refine y_initN C (yk1 l) hP hD hS hA hl.1 yw1 (List.mem_of_getElem? (i := 6) rfl) ⟨(Nat.le_of_ble_eq_true rfl), (Nat.le_of_ble_eq_true rfl)⟩ (Nat.le_of_ble_eq_true rfl) dX2_init_54 ⟨(Nat.le_of_ble_eq_true rfl), (Nat.le_of_ble_eq_true rfl)⟩ (fun u6 H locs hP hD hS => ?_)
  have hP : va_P D vwCl ((h, .inr (2, [.int 0, .int 0, .ref q1, .ref q2, .ref q3, .ref q4])) :: (((((([] ++ [(q1, .inl (c3.2.2, 10, .inr (.inr (.inr (.inr (va_up (fun _ => none) 0 (some q5)))))))]) ++ yZ c3.1 q2 10) ++ yZ c3.1 q3 10) ++ yZ c3.1 q4 10) ++ w1 c3 q5 u5) ++ w1 c3 q6 u6)) H := hP
  have hD : va_D A ((h, .inr (2, [.int 0, .int 0, .ref q1, .ref q2, .ref q3, .ref q4])) :: (((((([] ++ [(q1, .inl (c3.2.2, 10, .inr (.inr (.inr (.inr (va_up (fun _ => none) 0 (some q5)))))))]) ++ yZ c3.1 q2 10) ++ yZ c3.1 q3 10) ++ yZ c3.1 q4 10) ++ w1 c3 q5 u5) ++ w1 c3 q6 u6)) := hD
  refine va_astq hx hb hK hP hD hS 1 2 6 1 (r := (RX1, TX1, 8)) rfl rfl rfl rfl (vp_in_iff.mpr (by decide)) dX2_init_57 (fun H locs hP hD hS => ?_)
  have hP : va_P D vwCl ((h, .inr (2, [.int 0, .int 0, .ref q1, .ref q2, .ref q3, .ref q4])) :: (((((([] ++ [(q1, .inl (c3.2.2, 10, .inr (.inr (.inr (.inr (va_up (va_up (fun _ => none) 0 (some q5)) 1 (some q6)))))))]) ++ yZ c3.1 q2 10) ++ yZ c3.1 q3 10) ++ yZ c3.1 q4 10) ++ w1 c3 q5 u5) ++ w1 c3 q6 u6)) H := hP
  have hD : va_D A ((h, .inr (2, [.int 0, .int 0, .ref q1, .ref q2, .ref q3, .ref q4])) :: (((((([] ++ [(q1, .inl (c3.2.2, 10, .inr (.inr (.inr (.inr (va_up (va_up (fun _ => none) 0 (some q5)) 1 (some q6)))))))]) ++ yZ c3.1 q2 10) ++ yZ c3.1 q3 10) ++ yZ c3.1 q4 10) ++ w1 c3 q5 u5) ++ w1 c3 q6 u6)) := hD
  refine lv_iinc (v := 2) (lv' := [(1, .int 2), (0, .ref h)]) hx hb dX2_init_58 hl (k := 0) rfl (by decide) (by decide) rfl (fun ls hl => ?_)
  refine lv_goto (tgt := 39) hx hb dX2_init_61 (by decide) ?_
  refine lv_iload_n hx hb dX2_init_39 rfl (lv_at hl 0 rfl) ?_
  refine lv_bipush (v := 10) hx hb dX2_init_40 (by decide) ?_
  refine lv_icmp_ge (tgt := 64) hx hb dX2_init_42 (by decide) (fun z => absurd z (by decide)) (fun _ => ?_)
  refine lv_aload_n hx hb dX2_init_45 rfl (lv_at hl 1 rfl) ?_
  refine va_get (D := D) (ci := 2) (v := .ref q1) (C := RX2) (T := TX2) (N := 6) hx hb hts inlX2 hown hK hP 0 rfl rfl 2 (by decide) (hts (Cond.fieldLink RX2 11 "SevenUnsaid$History" "counts" "[LSevenUnsaid$Count;") (List.mem_of_getElem? (i := 95) (by decide +kernel))) (fun _ h9 => h9) rfl dX2_init_46 ?_
  refine lv_iload_n hx hb dX2_init_49 rfl (lv_at hl 0 rfl) ?_
  refine va_new (ci := 1) (fs := [.int 0, .int 0, .int 0, .int 0, .int 0, .int 0, .int 0, .int 0]) (C := RX1) (T := TX1) (N := 8) hx hb hts inlX1 tyX1 tyX1_ok hown (hts (Cond.classLink RX2 9 RX1) (List.mem_of_getElem? (i := 94) (by decide +kernel))) (hts (Cond.instantiable RX1 8) (List.mem_of_getElem? (i := 46) (by decide +kernel))) (hts (Cond.initialized RX1) (List.mem_of_getElem? (i := 47) (by decide +kernel))) hK hP hD hS hA rfl (by decide +kernel) (Nat.le_of_ble_eq_true rfl) (Nat.le_of_ble_eq_true rfl) dX2_init_50 (fun q7 H hP hD hS => ?_)
  refine lv_dup hx hb dX2_init_53 rfl ?_
  refine y_initN C (yk1 l) hP hD hS hA hl.1 yw1 (List.mem_of_getElem? (i := 6) rfl) ⟨(Nat.le_of_ble_eq_true rfl), (Nat.le_of_ble_eq_true rfl)⟩ (Nat.le_of_ble_eq_true rfl) dX2_init_54 ⟨(Nat.le_of_ble_eq_true rfl), (Nat.le_of_ble_eq_true rfl)⟩ (fun u7 H locs hP hD hS => ?_)
  have hP : va_P D vwCl ((h, .inr (2, [.int 0, .int 0, .ref q1, .ref q2, .ref q3, .ref q4])) :: ((((((([] ++ [(q1, .inl (c3.2.2, 10, .inr (.inr (.inr (.inr (va_up (va_up (fun _ => none) 0 (some q5)) 1 (some q6)))))))]) ++ yZ c3.1 q2 10) ++ yZ c3.1 q3 10) ++ yZ c3.1 q4 10) ++ w1 c3 q5 u5) ++ w1 c3 q6 u6) ++ w1 c3 q7 u7)) H := hP
  have hD : va_D A ((h, .inr (2, [.int 0, .int 0, .ref q1, .ref q2, .ref q3, .ref q4])) :: ((((((([] ++ [(q1, .inl (c3.2.2, 10, .inr (.inr (.inr (.inr (va_up (va_up (fun _ => none) 0 (some q5)) 1 (some q6)))))))]) ++ yZ c3.1 q2 10) ++ yZ c3.1 q3 10) ++ yZ c3.1 q4 10) ++ w1 c3 q5 u5) ++ w1 c3 q6 u6) ++ w1 c3 q7 u7)) := hD
  refine va_astq hx hb hK hP hD hS 1 2 7 1 (r := (RX1, TX1, 8)) rfl rfl rfl rfl (vp_in_iff.mpr (by decide)) dX2_init_57 (fun H locs hP hD hS => ?_)
  have hP : va_P D vwCl ((h, .inr (2, [.int 0, .int 0, .ref q1, .ref q2, .ref q3, .ref q4])) :: ((((((([] ++ [(q1, .inl (c3.2.2, 10, .inr (.inr (.inr (.inr (va_up (va_up (va_up (fun _ => none) 0 (some q5)) 1 (some q6)) 2 (some q7)))))))]) ++ yZ c3.1 q2 10) ++ yZ c3.1 q3 10) ++ yZ c3.1 q4 10) ++ w1 c3 q5 u5) ++ w1 c3 q6 u6) ++ w1 c3 q7 u7)) H := hP
  have hD : va_D A ((h, .inr (2, [.int 0, .int 0, .ref q1, .ref q2, .ref q3, .ref q4])) :: ((((((([] ++ [(q1, .inl (c3.2.2, 10, .inr (.inr (.inr (.inr (va_up (va_up (va_up (fun _ => none) 0 (some q5)) 1 (some q6)) 2 (some q7)))))))]) ++ yZ c3.1 q2 10) ++ yZ c3.1 q3 10) ++ yZ c3.1 q4 10) ++ w1 c3 q5 u5) ++ w1 c3 q6 u6) ++ w1 c3 q7 u7)) := hD
  refine lv_iinc (v := 3) (lv' := [(1, .int 3), (0, .ref h)]) hx hb dX2_init_58 hl (k := 0) rfl (by decide) (by decide) rfl (fun ls hl => ?_)
  refine lv_goto (tgt := 39) hx hb dX2_init_61 (by decide) ?_
  refine lv_iload_n hx hb dX2_init_39 rfl (lv_at hl 0 rfl) ?_
  refine lv_bipush (v := 10) hx hb dX2_init_40 (by decide) ?_
  refine lv_icmp_ge (tgt := 64) hx hb dX2_init_42 (by decide) (fun z => absurd z (by decide)) (fun _ => ?_)
  refine lv_aload_n hx hb dX2_init_45 rfl (lv_at hl 1 rfl) ?_
  refine va_get (D := D) (ci := 2) (v := .ref q1) (C := RX2) (T := TX2) (N := 6) hx hb hts inlX2 hown hK hP 0 rfl rfl 2 (by decide) (hts (Cond.fieldLink RX2 11 "SevenUnsaid$History" "counts" "[LSevenUnsaid$Count;") (List.mem_of_getElem? (i := 95) (by decide +kernel))) (fun _ h9 => h9) rfl dX2_init_46 ?_
  refine lv_iload_n hx hb dX2_init_49 rfl (lv_at hl 0 rfl) ?_
  refine va_new (ci := 1) (fs := [.int 0, .int 0, .int 0, .int 0, .int 0, .int 0, .int 0, .int 0]) (C := RX1) (T := TX1) (N := 8) hx hb hts inlX1 tyX1 tyX1_ok hown (hts (Cond.classLink RX2 9 RX1) (List.mem_of_getElem? (i := 94) (by decide +kernel))) (hts (Cond.instantiable RX1 8) (List.mem_of_getElem? (i := 46) (by decide +kernel))) (hts (Cond.initialized RX1) (List.mem_of_getElem? (i := 47) (by decide +kernel))) hK hP hD hS hA rfl (by decide +kernel) (Nat.le_of_ble_eq_true rfl) (Nat.le_of_ble_eq_true rfl) dX2_init_50 (fun q8 H hP hD hS => ?_)
  refine lv_dup hx hb dX2_init_53 rfl ?_
  refine y_initN C (yk1 l) hP hD hS hA hl.1 yw1 (List.mem_of_getElem? (i := 6) rfl) ⟨(Nat.le_of_ble_eq_true rfl), (Nat.le_of_ble_eq_true rfl)⟩ (Nat.le_of_ble_eq_true rfl) dX2_init_54 ⟨(Nat.le_of_ble_eq_true rfl), (Nat.le_of_ble_eq_true rfl)⟩ (fun u8 H locs hP hD hS => ?_)
  have hP : va_P D vwCl ((h, .inr (2, [.int 0, .int 0, .ref q1, .ref q2, .ref q3, .ref q4])) :: (((((((([] ++ [(q1, .inl (c3.2.2, 10, .inr (.inr (.inr (.inr (va_up (va_up (va_up (fun _ => none) 0 (some q5)) 1 (some q6)) 2 (some q7)))))))]) ++ yZ c3.1 q2 10) ++ yZ c3.1 q3 10) ++ yZ c3.1 q4 10) ++ w1 c3 q5 u5) ++ w1 c3 q6 u6) ++ w1 c3 q7 u7) ++ w1 c3 q8 u8)) H := hP
  have hD : va_D A ((h, .inr (2, [.int 0, .int 0, .ref q1, .ref q2, .ref q3, .ref q4])) :: (((((((([] ++ [(q1, .inl (c3.2.2, 10, .inr (.inr (.inr (.inr (va_up (va_up (va_up (fun _ => none) 0 (some q5)) 1 (some q6)) 2 (some q7)))))))]) ++ yZ c3.1 q2 10) ++ yZ c3.1 q3 10) ++ yZ c3.1 q4 10) ++ w1 c3 q5 u5) ++ w1 c3 q6 u6) ++ w1 c3 q7 u7) ++ w1 c3 q8 u8)) := hD
  refine va_astq hx hb hK hP hD hS 1 2 8 1 (r := (RX1, TX1, 8)) rfl rfl rfl rfl (vp_in_iff.mpr (by decide)) dX2_init_57 (fun H locs hP hD hS => ?_)
  have hP : va_P D vwCl ((h, .inr (2, [.int 0, .int 0, .ref q1, .ref q2, .ref q3, .ref q4])) :: (((((((([] ++ [(q1, .inl (c3.2.2, 10, .inr (.inr (.inr (.inr (va_up (va_up (va_up (va_up (fun _ => none) 0 (some q5)) 1 (some q6)) 2 (some q7)) 3 (some q8)))))))]) ++ yZ c3.1 q2 10) ++ yZ c3.1 q3 10) ++ yZ c3.1 q4 10) ++ w1 c3 q5 u5) ++ w1 c3 q6 u6) ++ w1 c3 q7 u7) ++ w1 c3 q8 u8)) H := hP
  have hD : va_D A ((h, .inr (2, [.int 0, .int 0, .ref q1, .ref q2, .ref q3, .ref q4])) :: (((((((([] ++ [(q1, .inl (c3.2.2, 10, .inr (.inr (.inr (.inr (va_up (va_up (va_up (va_up (fun _ => none) 0 (some q5)) 1 (some q6)) 2 (some q7)) 3 (some q8)))))))]) ++ yZ c3.1 q2 10) ++ yZ c3.1 q3 10) ++ yZ c3.1 q4 10) ++ w1 c3 q5 u5) ++ w1 c3 q6 u6) ++ w1 c3 q7 u7) ++ w1 c3 q8 u8)) := hD
  refine lv_iinc (v := 4) (lv' := [(1, .int 4), (0, .ref h)]) hx hb dX2_init_58 hl (k := 0) rfl (by decide) (by decide) rfl (fun ls hl => ?_)
  refine lv_goto (tgt := 39) hx hb dX2_init_61 (by decide) ?_
  refine lv_iload_n hx hb dX2_init_39 rfl (lv_at hl 0 rfl) ?_
  refine lv_bipush (v := 10) hx hb dX2_init_40 (by decide) ?_
  refine lv_icmp_ge (tgt := 64) hx hb dX2_init_42 (by decide) (fun z => absurd z (by decide)) (fun _ => ?_)
  refine lv_aload_n hx hb dX2_init_45 rfl (lv_at hl 1 rfl) ?_
  refine va_get (D := D) (ci := 2) (v := .ref q1) (C := RX2) (T := TX2) (N := 6) hx hb hts inlX2 hown hK hP 0 rfl rfl 2 (by decide) (hts (Cond.fieldLink RX2 11 "SevenUnsaid$History" "counts" "[LSevenUnsaid$Count;") (List.mem_of_getElem? (i := 95) (by decide +kernel))) (fun _ h9 => h9) rfl dX2_init_46 ?_
  refine lv_iload_n hx hb dX2_init_49 rfl (lv_at hl 0 rfl) ?_
  refine va_new (ci := 1) (fs := [.int 0, .int 0, .int 0, .int 0, .int 0, .int 0, .int 0, .int 0]) (C := RX1) (T := TX1) (N := 8) hx hb hts inlX1 tyX1 tyX1_ok hown (hts (Cond.classLink RX2 9 RX1) (List.mem_of_getElem? (i := 94) (by decide +kernel))) (hts (Cond.instantiable RX1 8) (List.mem_of_getElem? (i := 46) (by decide +kernel))) (hts (Cond.initialized RX1) (List.mem_of_getElem? (i := 47) (by decide +kernel))) hK hP hD hS hA rfl (by decide +kernel) (Nat.le_of_ble_eq_true rfl) (Nat.le_of_ble_eq_true rfl) dX2_init_50 (fun q9 H hP hD hS => ?_)
  refine lv_dup hx hb dX2_init_53 rfl ?_
  refine y_initN C (yk1 l) hP hD hS hA hl.1 yw1 (List.mem_of_getElem? (i := 6) rfl) ⟨(Nat.le_of_ble_eq_true rfl), (Nat.le_of_ble_eq_true rfl)⟩ (Nat.le_of_ble_eq_true rfl) dX2_init_54 ⟨(Nat.le_of_ble_eq_true rfl), (Nat.le_of_ble_eq_true rfl)⟩ (fun u9 H locs hP hD hS => ?_)
  have hP : va_P D vwCl ((h, .inr (2, [.int 0, .int 0, .ref q1, .ref q2, .ref q3, .ref q4])) :: ((((((((([] ++ [(q1, .inl (c3.2.2, 10, .inr (.inr (.inr (.inr (va_up (va_up (va_up (va_up (fun _ => none) 0 (some q5)) 1 (some q6)) 2 (some q7)) 3 (some q8)))))))]) ++ yZ c3.1 q2 10) ++ yZ c3.1 q3 10) ++ yZ c3.1 q4 10) ++ w1 c3 q5 u5) ++ w1 c3 q6 u6) ++ w1 c3 q7 u7) ++ w1 c3 q8 u8) ++ w1 c3 q9 u9)) H := hP
  have hD : va_D A ((h, .inr (2, [.int 0, .int 0, .ref q1, .ref q2, .ref q3, .ref q4])) :: ((((((((([] ++ [(q1, .inl (c3.2.2, 10, .inr (.inr (.inr (.inr (va_up (va_up (va_up (va_up (fun _ => none) 0 (some q5)) 1 (some q6)) 2 (some q7)) 3 (some q8)))))))]) ++ yZ c3.1 q2 10) ++ yZ c3.1 q3 10) ++ yZ c3.1 q4 10) ++ w1 c3 q5 u5) ++ w1 c3 q6 u6) ++ w1 c3 q7 u7) ++ w1 c3 q8 u8) ++ w1 c3 q9 u9)) := hD
  refine va_astq hx hb hK hP hD hS 1 2 9 1 (r := (RX1, TX1, 8)) rfl rfl rfl rfl (vp_in_iff.mpr (by decide)) dX2_init_57 (fun H locs hP hD hS => ?_)
  have hP : va_P D vwCl ((h, .inr (2, [.int 0, .int 0, .ref q1, .ref q2, .ref q3, .ref q4])) :: ((((((((([] ++ [(q1, .inl (c3.2.2, 10, .inr (.inr (.inr (.inr (va_up (va_up (va_up (va_up (va_up (fun _ => none) 0 (some q5)) 1 (some q6)) 2 (some q7)) 3 (some q8)) 4 (some q9)))))))]) ++ yZ c3.1 q2 10) ++ yZ c3.1 q3 10) ++ yZ c3.1 q4 10) ++ w1 c3 q5 u5) ++ w1 c3 q6 u6) ++ w1 c3 q7 u7) ++ w1 c3 q8 u8) ++ w1 c3 q9 u9)) H := hP
  have hD : va_D A ((h, .inr (2, [.int 0, .int 0, .ref q1, .ref q2, .ref q3, .ref q4])) :: ((((((((([] ++ [(q1, .inl (c3.2.2, 10, .inr (.inr (.inr (.inr (va_up (va_up (va_up (va_up (va_up (fun _ => none) 0 (some q5)) 1 (some q6)) 2 (some q7)) 3 (some q8)) 4 (some q9)))))))]) ++ yZ c3.1 q2 10) ++ yZ c3.1 q3 10) ++ yZ c3.1 q4 10) ++ w1 c3 q5 u5) ++ w1 c3 q6 u6) ++ w1 c3 q7 u7) ++ w1 c3 q8 u8) ++ w1 c3 q9 u9)) := hD
  refine lv_iinc (v := 5) (lv' := [(1, .int 5), (0, .ref h)]) hx hb dX2_init_58 hl (k := 0) rfl (by decide) (by decide) rfl (fun ls hl => ?_)
  refine lv_goto (tgt := 39) hx hb dX2_init_61 (by decide) ?_
  refine lv_iload_n hx hb dX2_init_39 rfl (lv_at hl 0 rfl) ?_
  refine lv_bipush (v := 10) hx hb dX2_init_40 (by decide) ?_
  refine lv_icmp_ge (tgt := 64) hx hb dX2_init_42 (by decide) (fun z => absurd z (by decide)) (fun _ => ?_)
  refine lv_aload_n hx hb dX2_init_45 rfl (lv_at hl 1 rfl) ?_
  refine va_get (D := D) (ci := 2) (v := .ref q1) (C := RX2) (T := TX2) (N := 6) hx hb hts inlX2 hown hK hP 0 rfl rfl 2 (by decide) (hts (Cond.fieldLink RX2 11 "SevenUnsaid$History" "counts" "[LSevenUnsaid$Count;") (List.mem_of_getElem? (i := 95) (by decide +kernel))) (fun _ h9 => h9) rfl dX2_init_46 ?_
  refine lv_iload_n hx hb dX2_init_49 rfl (lv_at hl 0 rfl) ?_
  refine va_new (ci := 1) (fs := [.int 0, .int 0, .int 0, .int 0, .int 0, .int 0, .int 0, .int 0]) (C := RX1) (T := TX1) (N := 8) hx hb hts inlX1 tyX1 tyX1_ok hown (hts (Cond.classLink RX2 9 RX1) (List.mem_of_getElem? (i := 94) (by decide +kernel))) (hts (Cond.instantiable RX1 8) (List.mem_of_getElem? (i := 46) (by decide +kernel))) (hts (Cond.initialized RX1) (List.mem_of_getElem? (i := 47) (by decide +kernel))) hK hP hD hS hA rfl (by decide +kernel) (Nat.le_of_ble_eq_true rfl) (Nat.le_of_ble_eq_true rfl) dX2_init_50 (fun q10 H hP hD hS => ?_)
  refine lv_dup hx hb dX2_init_53 rfl ?_
  refine y_initN C (yk1 l) hP hD hS hA hl.1 yw1 (List.mem_of_getElem? (i := 6) rfl) ⟨(Nat.le_of_ble_eq_true rfl), (Nat.le_of_ble_eq_true rfl)⟩ (Nat.le_of_ble_eq_true rfl) dX2_init_54 ⟨(Nat.le_of_ble_eq_true rfl), (Nat.le_of_ble_eq_true rfl)⟩ (fun u10 H locs hP hD hS => ?_)
  have hP : va_P D vwCl ((h, .inr (2, [.int 0, .int 0, .ref q1, .ref q2, .ref q3, .ref q4])) :: (((((((((([] ++ [(q1, .inl (c3.2.2, 10, .inr (.inr (.inr (.inr (va_up (va_up (va_up (va_up (va_up (fun _ => none) 0 (some q5)) 1 (some q6)) 2 (some q7)) 3 (some q8)) 4 (some q9)))))))]) ++ yZ c3.1 q2 10) ++ yZ c3.1 q3 10) ++ yZ c3.1 q4 10) ++ w1 c3 q5 u5) ++ w1 c3 q6 u6) ++ w1 c3 q7 u7) ++ w1 c3 q8 u8) ++ w1 c3 q9 u9) ++ w1 c3 q10 u10)) H := hP
  have hD : va_D A ((h, .inr (2, [.int 0, .int 0, .ref q1, .ref q2, .ref q3, .ref q4])) :: (((((((((([] ++ [(q1, .inl (c3.2.2, 10, .inr (.inr (.inr (.inr (va_up (va_up (va_up (va_up (va_up (fun _ => none) 0 (some q5)) 1 (some q6)) 2 (some q7)) 3 (some q8)) 4 (some q9)))))))]) ++ yZ c3.1 q2 10) ++ yZ c3.1 q3 10) ++ yZ c3.1 q4 10) ++ w1 c3 q5 u5) ++ w1 c3 q6 u6) ++ w1 c3 q7 u7) ++ w1 c3 q8 u8) ++ w1 c3 q9 u9) ++ w1 c3 q10 u10)) := hD
  refine va_astq hx hb hK hP hD hS 1 2 10 1 (r := (RX1, TX1, 8)) rfl rfl rfl rfl (vp_in_iff.mpr (by decide)) dX2_init_57 (fun H locs hP hD hS => ?_)
  have hP : va_P D vwCl ((h, .inr (2, [.int 0, .int 0, .ref q1, .ref q2, .ref q3, .ref q4])) :: (((((((((([] ++ [(q1, .inl (c3.2.2, 10, .inr (.inr (.inr (.inr (va_up (va_up (va_up (va_up (va_up (va_up (fun _ => none) 0 (some q5)) 1 (some q6)) 2 (some q7)) 3 (some q8)) 4 (some q9)) 5 (some q10)))))))]) ++ yZ c3.1 q2 10) ++ yZ c3.1 q3 10) ++ yZ c3.1 q4 10) ++ w1 c3 q5 u5) ++ w1 c3 q6 u6) ++ w1 c3 q7 u7) ++ w1 c3 q8 u8) ++ w1 c3 q9 u9) ++ w1 c3 q10 u10)) H := hP
  have hD : va_D A ((h, .inr (2, [.int 0, .int 0, .ref q1, .ref q2, .ref q3, .ref q4])) :: (((((((((([] ++ [(q1, .inl (c3.2.2, 10, .inr (.inr (.inr (.inr (va_up (va_up (va_up (va_up (va_up (va_up (fun _ => none) 0 (some q5)) 1 (some q6)) 2 (some q7)) 3 (some q8)) 4 (some q9)) 5 (some q10)))))))]) ++ yZ c3.1 q2 10) ++ yZ c3.1 q3 10) ++ yZ c3.1 q4 10) ++ w1 c3 q5 u5) ++ w1 c3 q6 u6) ++ w1 c3 q7 u7) ++ w1 c3 q8 u8) ++ w1 c3 q9 u9) ++ w1 c3 q10 u10)) := hD
  refine lv_iinc (v := 6) (lv' := [(1, .int 6), (0, .ref h)]) hx hb dX2_init_58 hl (k := 0) rfl (by decide) (by decide) rfl (fun ls hl => ?_)
  refine lv_goto (tgt := 39) hx hb dX2_init_61 (by decide) ?_
  refine lv_iload_n hx hb dX2_init_39 rfl (lv_at hl 0 rfl) ?_
  refine lv_bipush (v := 10) hx hb dX2_init_40 (by decide) ?_
  refine lv_icmp_ge (tgt := 64) hx hb dX2_init_42 (by decide) (fun z => absurd z (by decide)) (fun _ => ?_)
  refine lv_aload_n hx hb dX2_init_45 rfl (lv_at hl 1 rfl) ?_
  refine va_get (D := D) (ci := 2) (v := .ref q1) (C := RX2) (T := TX2) (N := 6) hx hb hts inlX2 hown hK hP 0 rfl rfl 2 (by decide) (hts (Cond.fieldLink RX2 11 "SevenUnsaid$History" "counts" "[LSevenUnsaid$Count;") (List.mem_of_getElem? (i := 95) (by decide +kernel))) (fun _ h9 => h9) rfl dX2_init_46 ?_
  refine lv_iload_n hx hb dX2_init_49 rfl (lv_at hl 0 rfl) ?_
  refine va_new (ci := 1) (fs := [.int 0, .int 0, .int 0, .int 0, .int 0, .int 0, .int 0, .int 0]) (C := RX1) (T := TX1) (N := 8) hx hb hts inlX1 tyX1 tyX1_ok hown (hts (Cond.classLink RX2 9 RX1) (List.mem_of_getElem? (i := 94) (by decide +kernel))) (hts (Cond.instantiable RX1 8) (List.mem_of_getElem? (i := 46) (by decide +kernel))) (hts (Cond.initialized RX1) (List.mem_of_getElem? (i := 47) (by decide +kernel))) hK hP hD hS hA rfl (by decide +kernel) (Nat.le_of_ble_eq_true rfl) (Nat.le_of_ble_eq_true rfl) dX2_init_50 (fun q11 H hP hD hS => ?_)
  refine lv_dup hx hb dX2_init_53 rfl ?_
  refine y_initN C (yk1 l) hP hD hS hA hl.1 yw1 (List.mem_of_getElem? (i := 6) rfl) ⟨(Nat.le_of_ble_eq_true rfl), (Nat.le_of_ble_eq_true rfl)⟩ (Nat.le_of_ble_eq_true rfl) dX2_init_54 ⟨(Nat.le_of_ble_eq_true rfl), (Nat.le_of_ble_eq_true rfl)⟩ (fun u11 H locs hP hD hS => ?_)
  have hP : va_P D vwCl ((h, .inr (2, [.int 0, .int 0, .ref q1, .ref q2, .ref q3, .ref q4])) :: ((((((((((([] ++ [(q1, .inl (c3.2.2, 10, .inr (.inr (.inr (.inr (va_up (va_up (va_up (va_up (va_up (va_up (fun _ => none) 0 (some q5)) 1 (some q6)) 2 (some q7)) 3 (some q8)) 4 (some q9)) 5 (some q10)))))))]) ++ yZ c3.1 q2 10) ++ yZ c3.1 q3 10) ++ yZ c3.1 q4 10) ++ w1 c3 q5 u5) ++ w1 c3 q6 u6) ++ w1 c3 q7 u7) ++ w1 c3 q8 u8) ++ w1 c3 q9 u9) ++ w1 c3 q10 u10) ++ w1 c3 q11 u11)) H := hP
  have hD : va_D A ((h, .inr (2, [.int 0, .int 0, .ref q1, .ref q2, .ref q3, .ref q4])) :: ((((((((((([] ++ [(q1, .inl (c3.2.2, 10, .inr (.inr (.inr (.inr (va_up (va_up (va_up (va_up (va_up (va_up (fun _ => none) 0 (some q5)) 1 (some q6)) 2 (some q7)) 3 (some q8)) 4 (some q9)) 5 (some q10)))))))]) ++ yZ c3.1 q2 10) ++ yZ c3.1 q3 10) ++ yZ c3.1 q4 10) ++ w1 c3 q5 u5) ++ w1 c3 q6 u6) ++ w1 c3 q7 u7) ++ w1 c3 q8 u8) ++ w1 c3 q9 u9) ++ w1 c3 q10 u10) ++ w1 c3 q11 u11)) := hD
  refine va_astq hx hb hK hP hD hS 1 2 11 1 (r := (RX1, TX1, 8)) rfl rfl rfl rfl (vp_in_iff.mpr (by decide)) dX2_init_57 (fun H locs hP hD hS => ?_)
  have hP : va_P D vwCl ((h, .inr (2, [.int 0, .int 0, .ref q1, .ref q2, .ref q3, .ref q4])) :: ((((((((((([] ++ [(q1, .inl (c3.2.2, 10, .inr (.inr (.inr (.inr (va_up (va_up (va_up (va_up (va_up (va_up (va_up (fun _ => none) 0 (some q5)) 1 (some q6)) 2 (some q7)) 3 (some q8)) 4 (some q9)) 5 (some q10)) 6 (some q11)))))))]) ++ yZ c3.1 q2 10) ++ yZ c3.1 q3 10) ++ yZ c3.1 q4 10) ++ w1 c3 q5 u5) ++ w1 c3 q6 u6) ++ w1 c3 q7 u7) ++ w1 c3 q8 u8) ++ w1 c3 q9 u9) ++ w1 c3 q10 u10) ++ w1 c3 q11 u11)) H := hP
  have hD : va_D A ((h, .inr (2, [.int 0, .int 0, .ref q1, .ref q2, .ref q3, .ref q4])) :: ((((((((((([] ++ [(q1, .inl (c3.2.2, 10, .inr (.inr (.inr (.inr (va_up (va_up (va_up (va_up (va_up (va_up (va_up (fun _ => none) 0 (some q5)) 1 (some q6)) 2 (some q7)) 3 (some q8)) 4 (some q9)) 5 (some q10)) 6 (some q11)))))))]) ++ yZ c3.1 q2 10) ++ yZ c3.1 q3 10) ++ yZ c3.1 q4 10) ++ w1 c3 q5 u5) ++ w1 c3 q6 u6) ++ w1 c3 q7 u7) ++ w1 c3 q8 u8) ++ w1 c3 q9 u9) ++ w1 c3 q10 u10) ++ w1 c3 q11 u11)) := hD
  refine lv_iinc (v := 7) (lv' := [(1, .int 7), (0, .ref h)]) hx hb dX2_init_58 hl (k := 0) rfl (by decide) (by decide) rfl (fun ls hl => ?_)
  refine lv_goto (tgt := 39) hx hb dX2_init_61 (by decide) ?_
  refine lv_iload_n hx hb dX2_init_39 rfl (lv_at hl 0 rfl) ?_
  refine lv_bipush (v := 10) hx hb dX2_init_40 (by decide) ?_
  refine lv_icmp_ge (tgt := 64) hx hb dX2_init_42 (by decide) (fun z => absurd z (by decide)) (fun _ => ?_)
  refine lv_aload_n hx hb dX2_init_45 rfl (lv_at hl 1 rfl) ?_
  refine va_get (D := D) (ci := 2) (v := .ref q1) (C := RX2) (T := TX2) (N := 6) hx hb hts inlX2 hown hK hP 0 rfl rfl 2 (by decide) (hts (Cond.fieldLink RX2 11 "SevenUnsaid$History" "counts" "[LSevenUnsaid$Count;") (List.mem_of_getElem? (i := 95) (by decide +kernel))) (fun _ h9 => h9) rfl dX2_init_46 ?_
  refine lv_iload_n hx hb dX2_init_49 rfl (lv_at hl 0 rfl) ?_
  refine va_new (ci := 1) (fs := [.int 0, .int 0, .int 0, .int 0, .int 0, .int 0, .int 0, .int 0]) (C := RX1) (T := TX1) (N := 8) hx hb hts inlX1 tyX1 tyX1_ok hown (hts (Cond.classLink RX2 9 RX1) (List.mem_of_getElem? (i := 94) (by decide +kernel))) (hts (Cond.instantiable RX1 8) (List.mem_of_getElem? (i := 46) (by decide +kernel))) (hts (Cond.initialized RX1) (List.mem_of_getElem? (i := 47) (by decide +kernel))) hK hP hD hS hA rfl (by decide +kernel) (Nat.le_of_ble_eq_true rfl) (Nat.le_of_ble_eq_true rfl) dX2_init_50 (fun q12 H hP hD hS => ?_)
  refine lv_dup hx hb dX2_init_53 rfl ?_
  refine y_initN C (yk1 l) hP hD hS hA hl.1 yw1 (List.mem_of_getElem? (i := 6) rfl) ⟨(Nat.le_of_ble_eq_true rfl), (Nat.le_of_ble_eq_true rfl)⟩ (Nat.le_of_ble_eq_true rfl) dX2_init_54 ⟨(Nat.le_of_ble_eq_true rfl), (Nat.le_of_ble_eq_true rfl)⟩ (fun u12 H locs hP hD hS => ?_)
  have hP : va_P D vwCl ((h, .inr (2, [.int 0, .int 0, .ref q1, .ref q2, .ref q3, .ref q4])) :: (((((((((((([] ++ [(q1, .inl (c3.2.2, 10, .inr (.inr (.inr (.inr (va_up (va_up (va_up (va_up (va_up (va_up (va_up (fun _ => none) 0 (some q5)) 1 (some q6)) 2 (some q7)) 3 (some q8)) 4 (some q9)) 5 (some q10)) 6 (some q11)))))))]) ++ yZ c3.1 q2 10) ++ yZ c3.1 q3 10) ++ yZ c3.1 q4 10) ++ w1 c3 q5 u5) ++ w1 c3 q6 u6) ++ w1 c3 q7 u7) ++ w1 c3 q8 u8) ++ w1 c3 q9 u9) ++ w1 c3 q10 u10) ++ w1 c3 q11 u11) ++ w1 c3 q12 u12)) H := hP
  have hD : va_D A ((h, .inr (2, [.int 0, .int 0, .ref q1, .ref q2, .ref q3, .ref q4])) :: (((((((((((([] ++ [(q1, .inl (c3.2.2, 10, .inr (.inr (.inr (.inr (va_up (va_up (va_up (va_up (va_up (va_up (va_up (fun _ => none) 0 (some q5)) 1 (some q6)) 2 (some q7)) 3 (some q8)) 4 (some q9)) 5 (some q10)) 6 (some q11)))))))]) ++ yZ c3.1 q2 10) ++ yZ c3.1 q3 10) ++ yZ c3.1 q4 10) ++ w1 c3 q5 u5) ++ w1 c3 q6 u6) ++ w1 c3 q7 u7) ++ w1 c3 q8 u8) ++ w1 c3 q9 u9) ++ w1 c3 q10 u10) ++ w1 c3 q11 u11) ++ w1 c3 q12 u12)) := hD
  refine va_astq hx hb hK hP hD hS 1 2 12 1 (r := (RX1, TX1, 8)) rfl rfl rfl rfl (vp_in_iff.mpr (by decide)) dX2_init_57 (fun H locs hP hD hS => ?_)
  have hP : va_P D vwCl ((h, .inr (2, [.int 0, .int 0, .ref q1, .ref q2, .ref q3, .ref q4])) :: (((((((((((([] ++ [(q1, .inl (c3.2.2, 10, .inr (.inr (.inr (.inr (va_up (va_up (va_up (va_up (va_up (va_up (va_up (va_up (fun _ => none) 0 (some q5)) 1 (some q6)) 2 (some q7)) 3 (some q8)) 4 (some q9)) 5 (some q10)) 6 (some q11)) 7 (some q12)))))))]) ++ yZ c3.1 q2 10) ++ yZ c3.1 q3 10) ++ yZ c3.1 q4 10) ++ w1 c3 q5 u5) ++ w1 c3 q6 u6) ++ w1 c3 q7 u7) ++ w1 c3 q8 u8) ++ w1 c3 q9 u9) ++ w1 c3 q10 u10) ++ w1 c3 q11 u11) ++ w1 c3 q12 u12)) H := hP
  have hD : va_D A ((h, .inr (2, [.int 0, .int 0, .ref q1, .ref q2, .ref q3, .ref q4])) :: (((((((((((([] ++ [(q1, .inl (c3.2.2, 10, .inr (.inr (.inr (.inr (va_up (va_up (va_up (va_up (va_up (va_up (va_up (va_up (fun _ => none) 0 (some q5)) 1 (some q6)) 2 (some q7)) 3 (some q8)) 4 (some q9)) 5 (some q10)) 6 (some q11)) 7 (some q12)))))))]) ++ yZ c3.1 q2 10) ++ yZ c3.1 q3 10) ++ yZ c3.1 q4 10) ++ w1 c3 q5 u5) ++ w1 c3 q6 u6) ++ w1 c3 q7 u7) ++ w1 c3 q8 u8) ++ w1 c3 q9 u9) ++ w1 c3 q10 u10) ++ w1 c3 q11 u11) ++ w1 c3 q12 u12)) := hD
  refine lv_iinc (v := 8) (lv' := [(1, .int 8), (0, .ref h)]) hx hb dX2_init_58 hl (k := 0) rfl (by decide) (by decide) rfl (fun ls hl => ?_)
  refine lv_goto (tgt := 39) hx hb dX2_init_61 (by decide) ?_
  refine lv_iload_n hx hb dX2_init_39 rfl (lv_at hl 0 rfl) ?_
  refine lv_bipush (v := 10) hx hb dX2_init_40 (by decide) ?_
  refine lv_icmp_ge (tgt := 64) hx hb dX2_init_42 (by decide) (fun z => absurd z (by decide)) (fun _ => ?_)
  refine lv_aload_n hx hb dX2_init_45 rfl (lv_at hl 1 rfl) ?_
  refine va_get (D := D) (ci := 2) (v := .ref q1) (C := RX2) (T := TX2) (N := 6) hx hb hts inlX2 hown hK hP 0 rfl rfl 2 (by decide) (hts (Cond.fieldLink RX2 11 "SevenUnsaid$History" "counts" "[LSevenUnsaid$Count;") (List.mem_of_getElem? (i := 95) (by decide +kernel))) (fun _ h9 => h9) rfl dX2_init_46 ?_
  refine lv_iload_n hx hb dX2_init_49 rfl (lv_at hl 0 rfl) ?_
  refine va_new (ci := 1) (fs := [.int 0, .int 0, .int 0, .int 0, .int 0, .int 0, .int 0, .int 0]) (C := RX1) (T := TX1) (N := 8) hx hb hts inlX1 tyX1 tyX1_ok hown (hts (Cond.classLink RX2 9 RX1) (List.mem_of_getElem? (i := 94) (by decide +kernel))) (hts (Cond.instantiable RX1 8) (List.mem_of_getElem? (i := 46) (by decide +kernel))) (hts (Cond.initialized RX1) (List.mem_of_getElem? (i := 47) (by decide +kernel))) hK hP hD hS hA rfl (by decide +kernel) (Nat.le_of_ble_eq_true rfl) (Nat.le_of_ble_eq_true rfl) dX2_init_50 (fun q13 H hP hD hS => ?_)
  refine lv_dup hx hb dX2_init_53 rfl ?_
  refine y_initN C (yk1 l) hP hD hS hA hl.1 yw1 (List.mem_of_getElem? (i := 6) rfl) ⟨(Nat.le_of_ble_eq_true rfl), (Nat.le_of_ble_eq_true rfl)⟩ (Nat.le_of_ble_eq_true rfl) dX2_init_54 ⟨(Nat.le_of_ble_eq_true rfl), (Nat.le_of_ble_eq_true rfl)⟩ (fun u13 H locs hP hD hS => ?_)
  have hP : va_P D vwCl ((h, .inr (2, [.int 0, .int 0, .ref q1, .ref q2, .ref q3, .ref q4])) :: ((((((((((((([] ++ [(q1, .inl (c3.2.2, 10, .inr (.inr (.inr (.inr (va_up (va_up (va_up (va_up (va_up (va_up (va_up (va_up (fun _ => none) 0 (some q5)) 1 (some q6)) 2 (some q7)) 3 (some q8)) 4 (some q9)) 5 (some q10)) 6 (some q11)) 7 (some q12)))))))]) ++ yZ c3.1 q2 10) ++ yZ c3.1 q3 10) ++ yZ c3.1 q4 10) ++ w1 c3 q5 u5) ++ w1 c3 q6 u6) ++ w1 c3 q7 u7) ++ w1 c3 q8 u8) ++ w1 c3 q9 u9) ++ w1 c3 q10 u10) ++ w1 c3 q11 u11) ++ w1 c3 q12 u12) ++ w1 c3 q13 u13)) H := hP
  have hD : va_D A ((h, .inr (2, [.int 0, .int 0, .ref q1, .ref q2, .ref q3, .ref q4])) :: ((((((((((((([] ++ [(q1, .inl (c3.2.2, 10, .inr (.inr (.inr (.inr (va_up (va_up (va_up (va_up (va_up (va_up (va_up (va_up (fun _ => none) 0 (some q5)) 1 (some q6)) 2 (some q7)) 3 (some q8)) 4 (some q9)) 5 (some q10)) 6 (some q11)) 7 (some q12)))))))]) ++ yZ c3.1 q2 10) ++ yZ c3.1 q3 10) ++ yZ c3.1 q4 10) ++ w1 c3 q5 u5) ++ w1 c3 q6 u6) ++ w1 c3 q7 u7) ++ w1 c3 q8 u8) ++ w1 c3 q9 u9) ++ w1 c3 q10 u10) ++ w1 c3 q11 u11) ++ w1 c3 q12 u12) ++ w1 c3 q13 u13)) := hD
  refine va_astq hx hb hK hP hD hS 1 2 13 1 (r := (RX1, TX1, 8)) rfl rfl rfl rfl (vp_in_iff.mpr (by decide)) dX2_init_57 (fun H locs hP hD hS => ?_)
  have hP : va_P D vwCl ((h, .inr (2, [.int 0, .int 0, .ref q1, .ref q2, .ref q3, .ref q4])) :: ((((((((((((([] ++ [(q1, .inl (c3.2.2, 10, .inr (.inr (.inr (.inr (va_up (va_up (va_up (va_up (va_up (va_up (va_up (va_up (va_up (fun _ => none) 0 (some q5)) 1 (some q6)) 2 (some q7)) 3 (some q8)) 4 (some q9)) 5 (some q10)) 6 (some q11)) 7 (some q12)) 8 (some q13)))))))]) ++ yZ c3.1 q2 10) ++ yZ c3.1 q3 10) ++ yZ c3.1 q4 10) ++ w1 c3 q5 u5) ++ w1 c3 q6 u6) ++ w1 c3 q7 u7) ++ w1 c3 q8 u8) ++ w1 c3 q9 u9) ++ w1 c3 q10 u10) ++ w1 c3 q11 u11) ++ w1 c3 q12 u12) ++ w1 c3 q13 u13)) H := hP
  have hD : va_D A ((h, .inr (2, [.int 0, .int 0, .ref q1, .ref q2, .ref q3, .ref q4])) :: ((((((((((((([] ++ [(q1, .inl (c3.2.2, 10, .inr (.inr (.inr (.inr (va_up (va_up (va_up (va_up (va_up (va_up (va_up (va_up (va_up (fun _ => none) 0 (some q5)) 1 (some q6)) 2 (some q7)) 3 (some q8)) 4 (some q9)) 5 (some q10)) 6 (some q11)) 7 (some q12)) 8 (some q13)))))))]) ++ yZ c3.1 q2 10) ++ yZ c3.1 q3 10) ++ yZ c3.1 q4 10) ++ w1 c3 q5 u5) ++ w1 c3 q6 u6) ++ w1 c3 q7 u7) ++ w1 c3 q8 u8) ++ w1 c3 q9 u9) ++ w1 c3 q10 u10) ++ w1 c3 q11 u11) ++ w1 c3 q12 u12) ++ w1 c3 q13 u13)) := hD
  refine lv_iinc (v := 9) (lv' := [(1, .int 9), (0, .ref h)]) hx hb dX2_init_58 hl (k := 0) rfl (by decide) (by decide) rfl (fun ls hl => ?_)
  refine lv_goto (tgt := 39) hx hb dX2_init_61 (by decide) ?_
  refine lv_iload_n hx hb dX2_init_39 rfl (lv_at hl 0 rfl) ?_
  refine lv_bipush (v := 10) hx hb dX2_init_40 (by decide) ?_
  refine lv_icmp_ge (tgt := 64) hx hb dX2_init_42 (by decide) (fun z => absurd z (by decide)) (fun _ => ?_)
  refine lv_aload_n hx hb dX2_init_45 rfl (lv_at hl 1 rfl) ?_
  refine va_get (D := D) (ci := 2) (v := .ref q1) (C := RX2) (T := TX2) (N := 6) hx hb hts inlX2 hown hK hP 0 rfl rfl 2 (by decide) (hts (Cond.fieldLink RX2 11 "SevenUnsaid$History" "counts" "[LSevenUnsaid$Count;") (List.mem_of_getElem? (i := 95) (by decide +kernel))) (fun _ h9 => h9) rfl dX2_init_46 ?_
  refine lv_iload_n hx hb dX2_init_49 rfl (lv_at hl 0 rfl) ?_
  refine va_new (ci := 1) (fs := [.int 0, .int 0, .int 0, .int 0, .int 0, .int 0, .int 0, .int 0]) (C := RX1) (T := TX1) (N := 8) hx hb hts inlX1 tyX1 tyX1_ok hown (hts (Cond.classLink RX2 9 RX1) (List.mem_of_getElem? (i := 94) (by decide +kernel))) (hts (Cond.instantiable RX1 8) (List.mem_of_getElem? (i := 46) (by decide +kernel))) (hts (Cond.initialized RX1) (List.mem_of_getElem? (i := 47) (by decide +kernel))) hK hP hD hS hA rfl (by decide +kernel) (Nat.le_of_ble_eq_true rfl) (Nat.le_of_ble_eq_true rfl) dX2_init_50 (fun q14 H hP hD hS => ?_)
  refine lv_dup hx hb dX2_init_53 rfl ?_
  refine y_initN C (yk1 l) hP hD hS hA hl.1 yw1 (List.mem_of_getElem? (i := 6) rfl) ⟨(Nat.le_of_ble_eq_true rfl), (Nat.le_of_ble_eq_true rfl)⟩ (Nat.le_of_ble_eq_true rfl) dX2_init_54 ⟨(Nat.le_of_ble_eq_true rfl), (Nat.le_of_ble_eq_true rfl)⟩ (fun u14 H locs hP hD hS => ?_)
  have hP : va_P D vwCl ((h, .inr (2, [.int 0, .int 0, .ref q1, .ref q2, .ref q3, .ref q4])) :: (((((((((((((([] ++ [(q1, .inl (c3.2.2, 10, .inr (.inr (.inr (.inr (va_up (va_up (va_up (va_up (va_up (va_up (va_up (va_up (va_up (fun _ => none) 0 (some q5)) 1 (some q6)) 2 (some q7)) 3 (some q8)) 4 (some q9)) 5 (some q10)) 6 (some q11)) 7 (some q12)) 8 (some q13)))))))]) ++ yZ c3.1 q2 10) ++ yZ c3.1 q3 10) ++ yZ c3.1 q4 10) ++ w1 c3 q5 u5) ++ w1 c3 q6 u6) ++ w1 c3 q7 u7) ++ w1 c3 q8 u8) ++ w1 c3 q9 u9) ++ w1 c3 q10 u10) ++ w1 c3 q11 u11) ++ w1 c3 q12 u12) ++ w1 c3 q13 u13) ++ w1 c3 q14 u14)) H := hP
  have hD : va_D A ((h, .inr (2, [.int 0, .int 0, .ref q1, .ref q2, .ref q3, .ref q4])) :: (((((((((((((([] ++ [(q1, .inl (c3.2.2, 10, .inr (.inr (.inr (.inr (va_up (va_up (va_up (va_up (va_up (va_up (va_up (va_up (va_up (fun _ => none) 0 (some q5)) 1 (some q6)) 2 (some q7)) 3 (some q8)) 4 (some q9)) 5 (some q10)) 6 (some q11)) 7 (some q12)) 8 (some q13)))))))]) ++ yZ c3.1 q2 10) ++ yZ c3.1 q3 10) ++ yZ c3.1 q4 10) ++ w1 c3 q5 u5) ++ w1 c3 q6 u6) ++ w1 c3 q7 u7) ++ w1 c3 q8 u8) ++ w1 c3 q9 u9) ++ w1 c3 q10 u10) ++ w1 c3 q11 u11) ++ w1 c3 q12 u12) ++ w1 c3 q13 u13) ++ w1 c3 q14 u14)) := hD
  refine va_astq hx hb hK hP hD hS 1 2 14 1 (r := (RX1, TX1, 8)) rfl rfl rfl rfl (vp_in_iff.mpr (by decide)) dX2_init_57 (fun H locs hP hD hS => ?_)
  have hP : va_P D vwCl ((h, .inr (2, [.int 0, .int 0, .ref q1, .ref q2, .ref q3, .ref q4])) :: (((((((((((((([] ++ [(q1, .inl (c3.2.2, 10, .inr (.inr (.inr (.inr (va_up (va_up (va_up (va_up (va_up (va_up (va_up (va_up (va_up (va_up (fun _ => none) 0 (some q5)) 1 (some q6)) 2 (some q7)) 3 (some q8)) 4 (some q9)) 5 (some q10)) 6 (some q11)) 7 (some q12)) 8 (some q13)) 9 (some q14)))))))]) ++ yZ c3.1 q2 10) ++ yZ c3.1 q3 10) ++ yZ c3.1 q4 10) ++ w1 c3 q5 u5) ++ w1 c3 q6 u6) ++ w1 c3 q7 u7) ++ w1 c3 q8 u8) ++ w1 c3 q9 u9) ++ w1 c3 q10 u10) ++ w1 c3 q11 u11) ++ w1 c3 q12 u12) ++ w1 c3 q13 u13) ++ w1 c3 q14 u14)) H := hP
  have hD : va_D A ((h, .inr (2, [.int 0, .int 0, .ref q1, .ref q2, .ref q3, .ref q4])) :: (((((((((((((([] ++ [(q1, .inl (c3.2.2, 10, .inr (.inr (.inr (.inr (va_up (va_up (va_up (va_up (va_up (va_up (va_up (va_up (va_up (va_up (fun _ => none) 0 (some q5)) 1 (some q6)) 2 (some q7)) 3 (some q8)) 4 (some q9)) 5 (some q10)) 6 (some q11)) 7 (some q12)) 8 (some q13)) 9 (some q14)))))))]) ++ yZ c3.1 q2 10) ++ yZ c3.1 q3 10) ++ yZ c3.1 q4 10) ++ w1 c3 q5 u5) ++ w1 c3 q6 u6) ++ w1 c3 q7 u7) ++ w1 c3 q8 u8) ++ w1 c3 q9 u9) ++ w1 c3 q10 u10) ++ w1 c3 q11 u11) ++ w1 c3 q12 u12) ++ w1 c3 q13 u13) ++ w1 c3 q14 u14)) := hD
  refine lv_iinc (v := 10) (lv' := [(1, .int 10), (0, .ref h)]) hx hb dX2_init_58 hl (k := 0) rfl (by decide) (by decide) rfl (fun ls hl => ?_)
  refine lv_goto (tgt := 39) hx hb dX2_init_61 (by decide) ?_
  refine lv_iload_n hx hb dX2_init_39 rfl (lv_at hl 0 rfl) ?_
  refine lv_bipush (v := 10) hx hb dX2_init_40 (by decide) ?_
  refine lv_icmp_ge (tgt := 64) hx hb dX2_init_42 (by decide) (fun _ => ?_) (fun z => absurd (by decide) z)
  exact kk (q1, q2, q3, q4, (q5, u5), (q6, u6), (q7, u7), (q8, u8), (q9, u9), (q10, u10), (q11, u11), (q12, u12), (q13, u13), (q14, u14)) _ _ _ _ dX2_init_64 hP hD hS
theorem dX4_init_0 : decode cX4_init 0 = .ok (.aload_n 0, 1) := by decide +kernel
theorem dX4_init_1 : decode cX4_init 1 = .ok (.invokespecial 3, 3) := by decide +kernel
theorem dX4_init_4 : decode cX4_init 4 = .ok (.aload_n 0, 1) := by decide +kernel
theorem dX4_init_5 : decode cX4_init 5 = .ok (.new 9, 3) := by decide +kernel
theorem dX4_init_8 : decode cX4_init 8 = .ok (.dup, 1) := by decide +kernel
theorem dX4_init_9 : decode cX4_init 9 = .ok (.invokespecial 11, 3) := by decide +kernel
theorem dX4_init_12 : decode cX4_init 12 = .ok (.putfield 12, 3) := by decide +kernel
theorem dX4_init_15 : decode cX4_init 15 = .ok (.aload_n 0, 1) := by decide +kernel
theorem dX4_init_16 : decode cX4_init 16 = .ok (.new 18, 3) := by decide +kernel
theorem dX4_init_19 : decode cX4_init 19 = .ok (.dup, 1) := by decide +kernel
theorem dX4_init_20 : decode cX4_init 20 = .ok (.invokespecial 20, 3) := by decide +kernel
theorem dX4_init_23 : decode cX4_init 23 = .ok (.putfield 21, 3) := by decide +kernel
theorem dX4_init_26 : decode cX4_init 26 = .ok (.aload_n 0, 1) := by decide +kernel
theorem dX4_init_27 : decode cX4_init 27 = .ok (.bipush 40, 2) := by decide +kernel
theorem dX4_init_29 : decode cX4_init 29 = .ok (.newarray .int, 2) := by decide +kernel
theorem dX4_init_31 : decode cX4_init 31 = .ok (.putfield 25, 3) := by decide +kernel
theorem dX4_init_34 : decode cX4_init 34 = .ok (.return_, 1) := by decide +kernel
abbrev S4 : Type := (Nat × S9) × (Nat × S3) × Nat
def w4 (c3 : yI3) (h : Nat) (u : S4) : va_W := ((h, .inr (4, [.ref (u.1.1), .ref (u.2.1.1), .int 0, .int 0, .int 0, .int 0, .int 0, .ref (u.2.2), .int 0])) :: ((([] ++ w9 c3 (u.1.1) (u.1.2)) ++ w3 c3 (u.2.1.1) (u.2.1.2)) ++ yZ c3.1 (u.2.2) 40))
theorem yw4 : yWd yX4_init cX4_init 1 := ⟨(List.mem_of_getElem? (i := 118) (by decide +kernel)), (List.mem_of_getElem? (i := 117) (by decide +kernel)), (List.mem_of_getElem? (i := 31) (by decide +kernel)), rfl, by decide, by decide, by decide +kernel⟩
set_option maxHeartbeats 4000000 in
set_option maxRecDepth 100000 in
theorem yk4 (l : Launch) : yMk l yX4_init cX4_init 1 4 [.null, .null, .int 0, .int 0, .int 0, .int 0, .int 0, .null, .int 0] w4 2 7 901 := by
  refine yMk.of (by decide +kernel) rfl (by decide) ?_
  intro p e s m below meth c D c3 h A Q ls C hin hA hP hD hS hl kk
  have hown : s.vm.findClass RX4 = some m.cls := C.2.2.2.1
  have hx := C.1
  have hb := C.2.1
  have hml := C.2.2.1
  have hts := C.2.2.2.2.1
  have hK := C.2.2.2.2.2.1
  have hP : va_P D vwCl ((h, .inr (4, [.null, .null, .int 0, .int 0, .int 0, .int 0, .int 0, .null, .int 0])) :: []) s.heap := hP
  have hD : va_D A ((h, .inr (4, [.null, .null, .int 0, .int 0, .int 0, .int 0, .int 0, .null, .int 0])) :: []) := hD
  refine lv_aload_n hx hb dX4_init_0 rfl (lv_at hl 0 rfl) ?_
  refine W.objInit hx hb hown (hts (Cond.methodLink RX4 3 objectInit) (List.mem_of_getElem? (i := 119) (by decide +kernel))) (hts (Cond.instanceMethod objectInit) (List.mem_of_getElem? (i := 10) (by decide +kernel))) (hts _ (List.mem_of_getElem? (i := 11) (by decide +kernel))) rfl (by rw [hml]; exact hl.1) rfl dX4_init_1 (Nat.le_of_ble_eq_true rfl) (Nat.le_of_ble_eq_true rfl) ?_
  refine W.eq (g2 := F0 m 4 ls []) rfl ?_
  refine lv_aload_n hx hb dX4_init_4 rfl (lv_at hl 0 rfl) ?_
  refine va_new (ci := 9) (fs := [.int 0, .int 0, .int 0, .int 0, .int 0, .null]) (C := RX9) (T := TX9) (N := 6) hx hb hts inlX9 tyX9 tyX9_ok hown (hts (Cond.classLink RX4 9 RX9) (List.mem_of_getElem? (i := 120) (by decide +kernel))) (hts (Cond.instantiable RX9 6) (List.mem_of_getElem? (i := 121) (by decide +kernel))) (hts (Cond.initialized RX9) (List.mem_of_getElem? (i := 122) (by decide +kernel))) hK hP hD hS hA rfl (by decide +kernel) (Nat.le_of_ble_eq_true rfl) (Nat.le_of_ble_eq_true rfl) dX4_init_5 (fun q1 H hP hD hS => ?_)
  refine lv_dup hx hb dX4_init_8 rfl ?_
  refine y_initN C (yk9 l) hP hD hS hA hl.1 yw9 (List.mem_of_getElem? (i := 12) rfl) ⟨(Nat.le_of_ble_eq_true rfl), (Nat.le_of_ble_eq_true rfl)⟩ (Nat.le_of_ble_eq_true rfl) dX4_init_9 ⟨(Nat.le_of_ble_eq_true rfl), (Nat.le_of_ble_eq_true rfl)⟩ (fun u1 H locs hP hD hS => ?_)
  have hP : va_P D vwCl ((h, .inr (4, [.null, .null, .int 0, .int 0, .int 0, .int 0, .int 0, .null, .int 0])) :: ([] ++ w9 c3 q1 u1)) H := hP
  have hD : va_D A ((h, .inr (4, [.null, .null, .int 0, .int 0, .int 0, .int 0, .int 0, .null, .int 0])) :: ([] ++ w9 c3 q1 u1)) := hD
  refine va_putF (D := D) (ci := 4) (v := .ref q1) (ty := .object "SevenUnsaid$Tape") (C := RX4) (T := TX4) (N := 9) hx hb hts inlX4 tyX4 tyX4_ok nmX4 hown hK hP hD hS 0 rfl rfl 0 (by decide) (hts (Cond.fieldLink RX4 12 "SevenUnsaid$LawMaker" "tape" "LSevenUnsaid$Tape;") (List.mem_of_getElem? (i := 123) (by decide +kernel))) (fun _ h9 => h9) rfl hin rfl (by decide +kernel) rfl rfl (Nat.le_of_ble_eq_true rfl) dX4_init_12 (fun H locs hP hD hS => ?_)
  have hP : va_P D vwCl ((h, .inr (4, [.ref q1, .null, .int 0, .int 0, .int 0, .int 0, .int 0, .null, .int 0])) :: ([] ++ w9 c3 q1 u1)) H := hP
  have hD : va_D A ((h, .inr (4, [.ref q1, .null, .int 0, .int 0, .int 0, .int 0, .int 0, .null, .int 0])) :: ([] ++ w9 c3 q1 u1)) := hD
  refine lv_aload_n hx hb dX4_init_15 rfl (lv_at hl 0 rfl) ?_
  refine va_new (ci := 3) (fs := [.int 0, .int 0, .int 0, .null, .null, .null, .int 0]) (C := RX3) (T := TX3) (N := 7) hx hb hts inlX3 tyX3 tyX3_ok hown (hts (Cond.classLink RX4 18 RX3) (List.mem_of_getElem? (i := 124) (by decide +kernel))) (hts (Cond.instantiable RX3 7) (List.mem_of_getElem? (i := 54) (by decide +kernel))) (hts (Cond.initialized RX3) (List.mem_of_getElem? (i := 55) (by decide +kernel))) hK hP hD hS hA rfl (by decide +kernel) (Nat.le_of_ble_eq_true rfl) (Nat.le_of_ble_eq_true rfl) dX4_init_16 (fun q2 H hP hD hS => ?_)
  refine lv_dup hx hb dX4_init_19 rfl ?_
  refine y_initN C (yk3 l) hP hD hS hA hl.1 yw3 (List.mem_of_getElem? (i := 13) rfl) ⟨(Nat.le_of_ble_eq_true rfl), (Nat.le_of_ble_eq_true rfl)⟩ (Nat.le_of_ble_eq_true rfl) dX4_init_20 ⟨(Nat.le_of_ble_eq_true rfl), (Nat.le_of_ble_eq_true rfl)⟩ (fun u2 H locs hP hD hS => ?_)
  have hP : va_P D vwCl ((h, .inr (4, [.ref q1, .null, .int 0, .int 0, .int 0, .int 0, .int 0, .null, .int 0])) :: (([] ++ w9 c3 q1 u1) ++ w3 c3 q2 u2)) H := hP
  have hD : va_D A ((h, .inr (4, [.ref q1, .null, .int 0, .int 0, .int 0, .int 0, .int 0, .null, .int 0])) :: (([] ++ w9 c3 q1 u1) ++ w3 c3 q2 u2)) := hD
  refine va_putF (D := D) (ci := 4) (v := .ref q2) (ty := .object "SevenUnsaid$Law") (C := RX4) (T := TX4) (N := 9) hx hb hts inlX4 tyX4 tyX4_ok nmX4 hown hK hP hD hS 0 rfl rfl 1 (by decide) (hts (Cond.fieldLink RX4 21 "SevenUnsaid$LawMaker" "law" "LSevenUnsaid$Law;") (List.mem_of_getElem? (i := 125) (by decide +kernel))) (fun _ h9 => h9) rfl hin rfl (by decide +kernel) rfl rfl (Nat.le_of_ble_eq_true rfl) dX4_init_23 (fun H locs hP hD hS => ?_)
  have hP : va_P D vwCl ((h, .inr (4, [.ref q1, .ref q2, .int 0, .int 0, .int 0, .int 0, .int 0, .null, .int 0])) :: (([] ++ w9 c3 q1 u1) ++ w3 c3 q2 u2)) H := hP
  have hD : va_D A ((h, .inr (4, [.ref q1, .ref q2, .int 0, .int 0, .int 0, .int 0, .int 0, .null, .int 0])) :: (([] ++ w9 c3 q1 u1) ++ w3 c3 q2 u2)) := hD
  refine lv_aload_n hx hb dX4_init_26 rfl (lv_at hl 0 rfl) ?_
  refine lv_bipush (v := 40) hx hb dX4_init_27 (by decide) ?_
  refine y_newi C hP hD hS hA 40 (by decide) (by decide) (Nat.le_of_ble_eq_true rfl) (Nat.le_of_ble_eq_true rfl) (Nat.le_of_ble_eq_true rfl) dX4_init_29 (fun q3 H hP hD hS => ?_)
  have hP : va_P D vwCl ((h, .inr (4, [.ref q1, .ref q2, .int 0, .int 0, .int 0, .int 0, .int 0, .null, .int 0])) :: ((([] ++ w9 c3 q1 u1) ++ w3 c3 q2 u2) ++ yZ c3.1 q3 40)) H := hP
  have hD : va_D A ((h, .inr (4, [.ref q1, .ref q2, .int 0, .int 0, .int 0, .int 0, .int 0, .null, .int 0])) :: ((([] ++ w9 c3 q1 u1) ++ w3 c3 q2 u2) ++ yZ c3.1 q3 40)) := hD
  refine va_putF (D := D) (ci := 4) (v := .ref q3) (ty := .array .int) (C := RX4) (T := TX4) (N := 9) hx hb hts inlX4 tyX4 tyX4_ok nmX4 hown hK hP hD hS 0 rfl rfl 7 (by decide) (hts (Cond.fieldLink RX4 25 "SevenUnsaid$LawMaker" "waiting" "[I") (List.mem_of_getElem? (i := 126) (by decide +kernel))) (fun _ h9 => h9) rfl hin rfl (by decide +kernel) rfl rfl (Nat.le_of_ble_eq_true rfl) dX4_init_31 (fun H locs hP hD hS => ?_)
  have hP : va_P D vwCl ((h, .inr (4, [.ref q1, .ref q2, .int 0, .int 0, .int 0, .int 0, .int 0, .ref q3, .int 0])) :: ((([] ++ w9 c3 q1 u1) ++ w3 c3 q2 u2) ++ yZ c3.1 q3 40)) H := hP
  have hD : va_D A ((h, .inr (4, [.ref q1, .ref q2, .int 0, .int 0, .int 0, .int 0, .int 0, .ref q3, .int 0])) :: ((([] ++ w9 c3 q1 u1) ++ w3 c3 q2 u2) ++ yZ c3.1 q3 40)) := hD
  exact kk ((q1, u1), (q2, u2), q3) _ _ _ _ dX4_init_34 hP hD hS
theorem dX5_init_0 : decode cX5_init 0 = .ok (.aload_n 0, 1) := by decide +kernel
theorem dX5_init_1 : decode cX5_init 1 = .ok (.invokespecial 3, 3) := by decide +kernel
theorem dX5_init_4 : decode cX5_init 4 = .ok (.aload_n 0, 1) := by decide +kernel
theorem dX5_init_5 : decode cX5_init 5 = .ok (.new 9, 3) := by decide +kernel
theorem dX5_init_8 : decode cX5_init 8 = .ok (.dup, 1) := by decide +kernel
theorem dX5_init_9 : decode cX5_init 9 = .ok (.invokespecial 11, 3) := by decide +kernel
theorem dX5_init_12 : decode cX5_init 12 = .ok (.putfield 12, 3) := by decide +kernel
theorem dX5_init_15 : decode cX5_init 15 = .ok (.aload_n 0, 1) := by decide +kernel
theorem dX5_init_16 : decode cX5_init 16 = .ok (.new 18, 3) := by decide +kernel
theorem dX5_init_19 : decode cX5_init 19 = .ok (.dup, 1) := by decide +kernel
theorem dX5_init_20 : decode cX5_init 20 = .ok (.invokespecial 20, 3) := by decide +kernel
theorem dX5_init_23 : decode cX5_init 23 = .ok (.putfield 21, 3) := by decide +kernel
theorem dX5_init_26 : decode cX5_init 26 = .ok (.aload_n 0, 1) := by decide +kernel
theorem dX5_init_27 : decode cX5_init 27 = .ok (.new 25, 3) := by decide +kernel
theorem dX5_init_30 : decode cX5_init 30 = .ok (.dup, 1) := by decide +kernel
theorem dX5_init_31 : decode cX5_init 31 = .ok (.invokespecial 27, 3) := by decide +kernel
theorem dX5_init_34 : decode cX5_init 34 = .ok (.putfield 28, 3) := by decide +kernel
theorem dX5_init_37 : decode cX5_init 37 = .ok (.aload_n 0, 1) := by decide +kernel
theorem dX5_init_38 : decode cX5_init 38 = .ok (.new 32, 3) := by decide +kernel
theorem dX5_init_41 : decode cX5_init 41 = .ok (.dup, 1) := by decide +kernel
theorem dX5_init_42 : decode cX5_init 42 = .ok (.invokespecial 34, 3) := by decide +kernel
theorem dX5_init_45 : decode cX5_init 45 = .ok (.putfield 35, 3) := by decide +kernel
theorem dX5_init_48 : decode cX5_init 48 = .ok (.aload_n 0, 1) := by decide +kernel
theorem dX5_init_49 : decode cX5_init 49 = .ok (.new 39, 3) := by decide +kernel
theorem dX5_init_52 : decode cX5_init 52 = .ok (.dup, 1) := by decide +kernel
theorem dX5_init_53 : decode cX5_init 53 = .ok (.invokespecial 41, 3) := by decide +kernel
theorem dX5_init_56 : decode cX5_init 56 = .ok (.putfield 42, 3) := by decide +kernel
theorem dX5_init_59 : decode cX5_init 59 = .ok (.return_, 1) := by decide +kernel
abbrev S5 : Type := (Nat × S8) × (Nat × S6) × (Nat × Unit) × (Nat × S0) × (Nat × S3)
def w5 (c3 : yI3) (h : Nat) (u : S5) : va_W := ((h, .inr (5, [.ref (u.1.1), .ref (u.2.1.1), .ref (u.2.2.1.1), .ref (u.2.2.2.1.1), .ref (u.2.2.2.2.1), .int 0])) :: ((((([] ++ w8 c3 (u.1.1) (u.1.2)) ++ w6 c3 (u.2.1.1) (u.2.1.2)) ++ w1 c3 (u.2.2.1.1) (u.2.2.1.2)) ++ w0 c3 (u.2.2.2.1.1) (u.2.2.2.1.2)) ++ w3 c3 (u.2.2.2.2.1) (u.2.2.2.2.2)))
theorem yw5 : yWd yX5_init cX5_init 1 := ⟨(List.mem_of_getElem? (i := 35) (by decide +kernel)), (List.mem_of_getElem? (i := 34) (by decide +kernel)), (List.mem_of_getElem? (i := 14) (by decide +kernel)), rfl, by decide, by decide, by decide +kernel⟩
set_option maxHeartbeats 4000000 in
set_option maxRecDepth 100000 in
theorem yk5 (l : Launch) : yMk l yX5_init cX5_init 1 5 [.null, .null, .null, .null, .null, .int 0] w5 2 19 933 := by
  refine yMk.of (by decide +kernel) rfl (by decide) ?_
  intro p e s m below meth c D c3 h A Q ls C hin hA hP hD hS hl kk
  have hown : s.vm.findClass RX5 = some m.cls := C.2.2.2.1
  have hx := C.1
  have hb := C.2.1
  have hml := C.2.2.1
  have hts := C.2.2.2.2.1
  have hK := C.2.2.2.2.2.1
  have hP : va_P D vwCl ((h, .inr (5, [.null, .null, .null, .null, .null, .int 0])) :: []) s.heap := hP
  have hD : va_D A ((h, .inr (5, [.null, .null, .null, .null, .null, .int 0])) :: []) := hD
  refine lv_aload_n hx hb dX5_init_0 rfl (lv_at hl 0 rfl) ?_
  refine W.objInit hx hb hown (hts (Cond.methodLink RX5 3 objectInit) (List.mem_of_getElem? (i := 36) (by decide +kernel))) (hts (Cond.instanceMethod objectInit) (List.mem_of_getElem? (i := 10) (by decide +kernel))) (hts _ (List.mem_of_getElem? (i := 11) (by decide +kernel))) rfl (by rw [hml]; exact hl.1) rfl dX5_init_1 (Nat.le_of_ble_eq_true rfl) (Nat.le_of_ble_eq_true rfl) ?_
  refine W.eq (g2 := F0 m 4 ls []) rfl ?_
  refine lv_aload_n hx hb dX5_init_4 rfl (lv_at hl 0 rfl) ?_
  refine va_new (ci := 8) (fs := [.int 0, .null, .null, .null, .null]) (C := RX8) (T := TX8) (N := 5) hx hb hts inlX8 tyX8 tyX8_ok hown (hts (Cond.classLink RX5 9 RX8) (List.mem_of_getElem? (i := 37) (by decide +kernel))) (hts (Cond.instantiable RX8 5) (List.mem_of_getElem? (i := 38) (by decide +kernel))) (hts (Cond.initialized RX8) (List.mem_of_getElem? (i := 39) (by decide +kernel))) hK hP hD hS hA rfl (by decide +kernel) (Nat.le_of_ble_eq_true rfl) (Nat.le_of_ble_eq_true rfl) dX5_init_5 (fun q1 H hP hD hS => ?_)
  refine lv_dup hx hb dX5_init_8 rfl ?_
  refine y_initN C (yk8 l) hP hD hS hA hl.1 yw8 (List.mem_of_getElem? (i := 1) rfl) ⟨(Nat.le_of_ble_eq_true rfl), (Nat.le_of_ble_eq_true rfl)⟩ (Nat.le_of_ble_eq_true rfl) dX5_init_9 ⟨(Nat.le_of_ble_eq_true rfl), (Nat.le_of_ble_eq_true rfl)⟩ (fun u1 H locs hP hD hS => ?_)
  have hP : va_P D vwCl ((h, .inr (5, [.null, .null, .null, .null, .null, .int 0])) :: ([] ++ w8 c3 q1 u1)) H := hP
  have hD : va_D A ((h, .inr (5, [.null, .null, .null, .null, .null, .int 0])) :: ([] ++ w8 c3 q1 u1)) := hD
  refine va_putF (D := D) (ci := 5) (v := .ref q1) (ty := .object "SevenUnsaid$Table") (C := RX5) (T := TX5) (N := 6) hx hb hts inlX5 tyX5 tyX5_ok nmX5 hown hK hP hD hS 0 rfl rfl 0 (by decide) (hts (Cond.fieldLink RX5 12 "SevenUnsaid$Round" "table" "LSevenUnsaid$Table;") (List.mem_of_getElem? (i := 40) (by decide +kernel))) (fun _ h9 => h9) rfl hin rfl (by decide +kernel) rfl rfl (Nat.le_of_ble_eq_true rfl) dX5_init_12 (fun H locs hP hD hS => ?_)
  have hP : va_P D vwCl ((h, .inr (5, [.ref q1, .null, .null, .null, .null, .int 0])) :: ([] ++ w8 c3 q1 u1)) H := hP
  have hD : va_D A ((h, .inr (5, [.ref q1, .null, .null, .null, .null, .int 0])) :: ([] ++ w8 c3 q1 u1)) := hD
  refine lv_aload_n hx hb dX5_init_15 rfl (lv_at hl 0 rfl) ?_
  refine va_new (ci := 6) (fs := [.int 0, .null, .null, .null, .int 0, .int 0, .int 0]) (C := RX6) (T := TX6) (N := 7) hx hb hts inlX6 tyX6 tyX6_ok hown (hts (Cond.classLink RX5 18 RX6) (List.mem_of_getElem? (i := 41) (by decide +kernel))) (hts (Cond.instantiable RX6 7) (List.mem_of_getElem? (i := 42) (by decide +kernel))) (hts (Cond.initialized RX6) (List.mem_of_getElem? (i := 43) (by decide +kernel))) hK hP hD hS hA rfl (by decide +kernel) (Nat.le_of_ble_eq_true rfl) (Nat.le_of_ble_eq_true rfl) dX5_init_16 (fun q2 H hP hD hS => ?_)
  refine lv_dup hx hb dX5_init_19 rfl ?_
  refine y_initN C (yk6 l) hP hD hS hA hl.1 yw6 (List.mem_of_getElem? (i := 2) rfl) ⟨(Nat.le_of_ble_eq_true rfl), (Nat.le_of_ble_eq_true rfl)⟩ (Nat.le_of_ble_eq_true rfl) dX5_init_20 ⟨(Nat.le_of_ble_eq_true rfl), (Nat.le_of_ble_eq_true rfl)⟩ (fun u2 H locs hP hD hS => ?_)
  have hP : va_P D vwCl ((h, .inr (5, [.ref q1, .null, .null, .null, .null, .int 0])) :: (([] ++ w8 c3 q1 u1) ++ w6 c3 q2 u2)) H := hP
  have hD : va_D A ((h, .inr (5, [.ref q1, .null, .null, .null, .null, .int 0])) :: (([] ++ w8 c3 q1 u1) ++ w6 c3 q2 u2)) := hD
  refine va_putF (D := D) (ci := 5) (v := .ref q2) (ty := .object "SevenUnsaid$Rules") (C := RX5) (T := TX5) (N := 6) hx hb hts inlX5 tyX5 tyX5_ok nmX5 hown hK hP hD hS 0 rfl rfl 1 (by decide) (hts (Cond.fieldLink RX5 21 "SevenUnsaid$Round" "rules" "LSevenUnsaid$Rules;") (List.mem_of_getElem? (i := 44) (by decide +kernel))) (fun _ h9 => h9) rfl hin rfl (by decide +kernel) rfl rfl (Nat.le_of_ble_eq_true rfl) dX5_init_23 (fun H locs hP hD hS => ?_)
  have hP : va_P D vwCl ((h, .inr (5, [.ref q1, .ref q2, .null, .null, .null, .int 0])) :: (([] ++ w8 c3 q1 u1) ++ w6 c3 q2 u2)) H := hP
  have hD : va_D A ((h, .inr (5, [.ref q1, .ref q2, .null, .null, .null, .int 0])) :: (([] ++ w8 c3 q1 u1) ++ w6 c3 q2 u2)) := hD
  refine lv_aload_n hx hb dX5_init_26 rfl (lv_at hl 0 rfl) ?_
  refine va_new (ci := 1) (fs := [.int 0, .int 0, .int 0, .int 0, .int 0, .int 0, .int 0, .int 0]) (C := RX1) (T := TX1) (N := 8) hx hb hts inlX1 tyX1 tyX1_ok hown (hts (Cond.classLink RX5 25 RX1) (List.mem_of_getElem? (i := 45) (by decide +kernel))) (hts (Cond.instantiable RX1 8) (List.mem_of_getElem? (i := 46) (by decide +kernel))) (hts (Cond.initialized RX1) (List.mem_of_getElem? (i := 47) (by decide +kernel))) hK hP hD hS hA rfl (by decide +kernel) (Nat.le_of_ble_eq_true rfl) (Nat.le_of_ble_eq_true rfl) dX5_init_27 (fun q3 H hP hD hS => ?_)
  refine lv_dup hx hb dX5_init_30 rfl ?_
  refine y_initN C (yk1 l) hP hD hS hA hl.1 yw1 (List.mem_of_getElem? (i := 3) rfl) ⟨(Nat.le_of_ble_eq_true rfl), (Nat.le_of_ble_eq_true rfl)⟩ (Nat.le_of_ble_eq_true rfl) dX5_init_31 ⟨(Nat.le_of_ble_eq_true rfl), (Nat.le_of_ble_eq_true rfl)⟩ (fun u3 H locs hP hD hS => ?_)
  have hP : va_P D vwCl ((h, .inr (5, [.ref q1, .ref q2, .null, .null, .null, .int 0])) :: ((([] ++ w8 c3 q1 u1) ++ w6 c3 q2 u2) ++ w1 c3 q3 u3)) H := hP
  have hD : va_D A ((h, .inr (5, [.ref q1, .ref q2, .null, .null, .null, .int 0])) :: ((([] ++ w8 c3 q1 u1) ++ w6 c3 q2 u2) ++ w1 c3 q3 u3)) := hD
  refine va_putF (D := D) (ci := 5) (v := .ref q3) (ty := .object "SevenUnsaid$Count") (C := RX5) (T := TX5) (N := 6) hx hb hts inlX5 tyX5 tyX5_ok nmX5 hown hK hP hD hS 0 rfl rfl 2 (by decide) (hts (Cond.fieldLink RX5 28 "SevenUnsaid$Round" "count" "LSevenUnsaid$Count;") (List.mem_of_getElem? (i := 48) (by decide +kernel))) (fun _ h9 => h9) rfl hin rfl (by decide +kernel) rfl rfl (Nat.le_of_ble_eq_true rfl) dX5_init_34 (fun H locs hP hD hS => ?_)
  have hP : va_P D vwCl ((h, .inr (5, [.ref q1, .ref q2, .ref q3, .null, .null, .int 0])) :: ((([] ++ w8 c3 q1 u1) ++ w6 c3 q2 u2) ++ w1 c3 q3 u3)) H := hP
  have hD : va_D A ((h, .inr (5, [.ref q1, .ref q2, .ref q3, .null, .null, .int 0])) :: ((([] ++ w8 c3 q1 u1) ++ w6 c3 q2 u2) ++ w1 c3 q3 u3)) := hD
  refine lv_aload_n hx hb dX5_init_37 rfl (lv_at hl 0 rfl) ?_
  refine va_new (ci := 0) (fs := [.int 0, .null, .null, .null, .null]) (C := RX0) (T := TX0) (N := 5) hx hb hts inlX0 tyX0 tyX0_ok hown (hts (Cond.classLink RX5 32 RX0) (List.mem_of_getElem? (i := 49) (by decide +kernel))) (hts (Cond.instantiable RX0 5) (List.mem_of_getElem? (i := 50) (by decide +kernel))) (hts (Cond.initialized RX0) (List.mem_of_getElem? (i := 51) (by decide +kernel))) hK hP hD hS hA rfl (by decide +kernel) (Nat.le_of_ble_eq_true rfl) (Nat.le_of_ble_eq_true rfl) dX5_init_38 (fun q4 H hP hD hS => ?_)
  refine lv_dup hx hb dX5_init_41 rfl ?_
  refine y_initN C (yk0 l) hP hD hS hA hl.1 yw0 (List.mem_of_getElem? (i := 4) rfl) ⟨(Nat.le_of_ble_eq_true rfl), (Nat.le_of_ble_eq_true rfl)⟩ (Nat.le_of_ble_eq_true rfl) dX5_init_42 ⟨(Nat.le_of_ble_eq_true rfl), (Nat.le_of_ble_eq_true rfl)⟩ (fun u4 H locs hP hD hS => ?_)
  have hP : va_P D vwCl ((h, .inr (5, [.ref q1, .ref q2, .ref q3, .null, .null, .int 0])) :: (((([] ++ w8 c3 q1 u1) ++ w6 c3 q2 u2) ++ w1 c3 q3 u3) ++ w0 c3 q4 u4)) H := hP
  have hD : va_D A ((h, .inr (5, [.ref q1, .ref q2, .ref q3, .null, .null, .int 0])) :: (((([] ++ w8 c3 q1 u1) ++ w6 c3 q2 u2) ++ w1 c3 q3 u3) ++ w0 c3 q4 u4)) := hD
  refine va_putF (D := D) (ci := 5) (v := .ref q4) (ty := .object "SevenUnsaid$Book") (C := RX5) (T := TX5) (N := 6) hx hb hts inlX5 tyX5 tyX5_ok nmX5 hown hK hP hD hS 0 rfl rfl 3 (by decide) (hts (Cond.fieldLink RX5 35 "SevenUnsaid$Round" "book" "LSevenUnsaid$Book;") (List.mem_of_getElem? (i := 52) (by decide +kernel))) (fun _ h9 => h9) rfl hin rfl (by decide +kernel) rfl rfl (Nat.le_of_ble_eq_true rfl) dX5_init_45 (fun H locs hP hD hS => ?_)
  have hP : va_P D vwCl ((h, .inr (5, [.ref q1, .ref q2, .ref q3, .ref q4, .null, .int 0])) :: (((([] ++ w8 c3 q1 u1) ++ w6 c3 q2 u2) ++ w1 c3 q3 u3) ++ w0 c3 q4 u4)) H := hP
  have hD : va_D A ((h, .inr (5, [.ref q1, .ref q2, .ref q3, .ref q4, .null, .int 0])) :: (((([] ++ w8 c3 q1 u1) ++ w6 c3 q2 u2) ++ w1 c3 q3 u3) ++ w0 c3 q4 u4)) := hD
  refine lv_aload_n hx hb dX5_init_48 rfl (lv_at hl 0 rfl) ?_
  refine va_new (ci := 3) (fs := [.int 0, .int 0, .int 0, .null, .null, .null, .int 0]) (C := RX3) (T := TX3) (N := 7) hx hb hts inlX3 tyX3 tyX3_ok hown (hts (Cond.classLink RX5 39 RX3) (List.mem_of_getElem? (i := 53) (by decide +kernel))) (hts (Cond.instantiable RX3 7) (List.mem_of_getElem? (i := 54) (by decide +kernel))) (hts (Cond.initialized RX3) (List.mem_of_getElem? (i := 55) (by decide +kernel))) hK hP hD hS hA rfl (by decide +kernel) (Nat.le_of_ble_eq_true rfl) (Nat.le_of_ble_eq_true rfl) dX5_init_49 (fun q5 H hP hD hS => ?_)
  refine lv_dup hx hb dX5_init_52 rfl ?_
  refine y_initN C (yk3 l) hP hD hS hA hl.1 yw3 (List.mem_of_getElem? (i := 5) rfl) ⟨(Nat.le_of_ble_eq_true rfl), (Nat.le_of_ble_eq_true rfl)⟩ (Nat.le_of_ble_eq_true rfl) dX5_init_53 ⟨(Nat.le_of_ble_eq_true rfl), (Nat.le_of_ble_eq_true rfl)⟩ (fun u5 H locs hP hD hS => ?_)
  have hP : va_P D vwCl ((h, .inr (5, [.ref q1, .ref q2, .ref q3, .ref q4, .null, .int 0])) :: ((((([] ++ w8 c3 q1 u1) ++ w6 c3 q2 u2) ++ w1 c3 q3 u3) ++ w0 c3 q4 u4) ++ w3 c3 q5 u5)) H := hP
  have hD : va_D A ((h, .inr (5, [.ref q1, .ref q2, .ref q3, .ref q4, .null, .int 0])) :: ((((([] ++ w8 c3 q1 u1) ++ w6 c3 q2 u2) ++ w1 c3 q3 u3) ++ w0 c3 q4 u4) ++ w3 c3 q5 u5)) := hD
  refine va_putF (D := D) (ci := 5) (v := .ref q5) (ty := .object "SevenUnsaid$Law") (C := RX5) (T := TX5) (N := 6) hx hb hts inlX5 tyX5 tyX5_ok nmX5 hown hK hP hD hS 0 rfl rfl 4 (by decide) (hts (Cond.fieldLink RX5 42 "SevenUnsaid$Round" "law" "LSevenUnsaid$Law;") (List.mem_of_getElem? (i := 56) (by decide +kernel))) (fun _ h9 => h9) rfl hin rfl (by decide +kernel) rfl rfl (Nat.le_of_ble_eq_true rfl) dX5_init_56 (fun H locs hP hD hS => ?_)
  have hP : va_P D vwCl ((h, .inr (5, [.ref q1, .ref q2, .ref q3, .ref q4, .ref q5, .int 0])) :: ((((([] ++ w8 c3 q1 u1) ++ w6 c3 q2 u2) ++ w1 c3 q3 u3) ++ w0 c3 q4 u4) ++ w3 c3 q5 u5)) H := hP
  have hD : va_D A ((h, .inr (5, [.ref q1, .ref q2, .ref q3, .ref q4, .ref q5, .int 0])) :: ((((([] ++ w8 c3 q1 u1) ++ w6 c3 q2 u2) ++ w1 c3 q3 u3) ++ w0 c3 q4 u4) ++ w3 c3 q5 u5)) := hD
  exact kk ((q1, u1), (q2, u2), (q3, u3), (q4, u4), (q5, u5)) _ _ _ _ dX5_init_59 hP hD hS
theorem dX11_init_0 : decode cX11_init 0 = .ok (.aload_n 0, 1) := by decide +kernel
theorem dX11_init_1 : decode cX11_init 1 = .ok (.invokespecial 1, 3) := by decide +kernel
theorem dX11_init_4 : decode cX11_init 4 = .ok (.aload_n 0, 1) := by decide +kernel
theorem dX11_init_5 : decode cX11_init 5 = .ok (.new 7, 3) := by decide +kernel
theorem dX11_init_8 : decode cX11_init 8 = .ok (.dup, 1) := by decide +kernel
theorem dX11_init_9 : decode cX11_init 9 = .ok (.invokespecial 9, 3) := by decide +kernel
theorem dX11_init_12 : decode cX11_init 12 = .ok (.putfield 10, 3) := by decide +kernel
theorem dX11_init_15 : decode cX11_init 15 = .ok (.aload_n 0, 1) := by decide +kernel
theorem dX11_init_16 : decode cX11_init 16 = .ok (.new 7, 3) := by decide +kernel
theorem dX11_init_19 : decode cX11_init 19 = .ok (.dup, 1) := by decide +kernel
theorem dX11_init_20 : decode cX11_init 20 = .ok (.invokespecial 9, 3) := by decide +kernel
theorem dX11_init_23 : decode cX11_init 23 = .ok (.putfield 16, 3) := by decide +kernel
theorem dX11_init_26 : decode cX11_init 26 = .ok (.aload_n 0, 1) := by decide +kernel
theorem dX11_init_27 : decode cX11_init 27 = .ok (.new 19, 3) := by decide +kernel
theorem dX11_init_30 : decode cX11_init 30 = .ok (.dup, 1) := by decide +kernel
theorem dX11_init_31 : decode cX11_init 31 = .ok (.invokespecial 21, 3) := by decide +kernel
theorem dX11_init_34 : decode cX11_init 34 = .ok (.putfield 22, 3) := by decide +kernel
theorem dX11_init_37 : decode cX11_init 37 = .ok (.aload_n 0, 1) := by decide +kernel
theorem dX11_init_38 : decode cX11_init 38 = .ok (.new 26, 3) := by decide +kernel
theorem dX11_init_41 : decode cX11_init 41 = .ok (.dup, 1) := by decide +kernel
theorem dX11_init_42 : decode cX11_init 42 = .ok (.invokespecial 28, 3) := by decide +kernel
theorem dX11_init_45 : decode cX11_init 45 = .ok (.putfield 29, 3) := by decide +kernel
theorem dX11_init_48 : decode cX11_init 48 = .ok (.aload_n 0, 1) := by decide +kernel
theorem dX11_init_49 : decode cX11_init 49 = .ok (.new 33, 3) := by decide +kernel
theorem dX11_init_52 : decode cX11_init 52 = .ok (.dup, 1) := by decide +kernel
theorem dX11_init_53 : decode cX11_init 53 = .ok (.invokespecial 35, 3) := by decide +kernel
theorem dX11_init_56 : decode cX11_init 56 = .ok (.putfield 36, 3) := by decide +kernel
theorem dX11_init_59 : decode cX11_init 59 = .ok (.aload_n 0, 1) := by decide +kernel
theorem dX11_init_60 : decode cX11_init 60 = .ok (.new 40, 3) := by decide +kernel
theorem dX11_init_63 : decode cX11_init 63 = .ok (.dup, 1) := by decide +kernel
theorem dX11_init_64 : decode cX11_init 64 = .ok (.invokespecial 42, 3) := by decide +kernel
theorem dX11_init_67 : decode cX11_init 67 = .ok (.putfield 43, 3) := by decide +kernel
theorem dX11_init_70 : decode cX11_init 70 = .ok (.aload_n 0, 1) := by decide +kernel
theorem dX11_init_71 : decode cX11_init 71 = .ok (.iconst (-1), 1) := by decide +kernel
theorem dX11_init_72 : decode cX11_init 72 = .ok (.putfield 47, 3) := by decide +kernel
theorem dX11_init_75 : decode cX11_init 75 = .ok (.return_, 1) := by decide +kernel
abbrev S11 : Type := (Nat × S5) × (Nat × S5) × (Nat × S2) × (Nat × S10) × (Nat × S7) × (Nat × S4)
def w11 (c3 : yI3) (h : Nat) (u : S11) : va_W := ((h, .inr (11, [.ref (u.1.1), .ref (u.2.1.1), .int 0, .ref (u.2.2.1.1), .ref (u.2.2.2.1.1), .ref (u.2.2.2.2.1.1), .ref (u.2.2.2.2.2.1), .int 0, .int (-1)])) :: (((((([] ++ w5 c3 (u.1.1) (u.1.2)) ++ w5 c3 (u.2.1.1) (u.2.1.2)) ++ w2 c3 (u.2.2.1.1) (u.2.2.1.2)) ++ w10 c3 (u.2.2.2.1.1) (u.2.2.2.1.2)) ++ w7 c3 (u.2.2.2.2.1.1) (u.2.2.2.2.1.2)) ++ w4 c3 (u.2.2.2.2.2.1) (u.2.2.2.2.2.2)))
theorem yw11 : yWd yX11_init cX11_init 1 := ⟨(List.mem_of_getElem? (i := 8) (by decide +kernel)), (List.mem_of_getElem? (i := 7) (by decide +kernel)), (List.mem_of_getElem? (i := 2) (by decide +kernel)), rfl, by decide, by decide, by decide +kernel⟩
set_option maxHeartbeats 4000000 in
set_option maxRecDepth 100000 in
theorem yk11 (l : Launch) : yMk l yX11_init cX11_init 1 11 [.null, .null, .int 0, .null, .null, .null, .null, .int 0, .int 0] w11 3 76 3435 := by
  refine yMk.of (by decide +kernel) rfl (by decide) ?_
  intro p e s m below meth c D c3 h A Q ls C hin hA hP hD hS hl kk
  have hown : s.vm.findClass RX11 = some m.cls := C.2.2.2.1
  have hx := C.1
  have hb := C.2.1
  have hml := C.2.2.1
  have hts := C.2.2.2.2.1
  have hK := C.2.2.2.2.2.1
  have hP : va_P D vwCl ((h, .inr (11, [.null, .null, .int 0, .null, .null, .null, .null, .int 0, .int 0])) :: []) s.heap := hP
  have hD : va_D A ((h, .inr (11, [.null, .null, .int 0, .null, .null, .null, .null, .int 0, .int 0])) :: []) := hD
  refine lv_aload_n hx hb dX11_init_0 rfl (lv_at hl 0 rfl) ?_
  refine W.objInit hx hb hown (hts (Cond.methodLink RX11 1 objectInit) (List.mem_of_getElem? (i := 9) (by decide +kernel))) (hts (Cond.instanceMethod objectInit) (List.mem_of_getElem? (i := 10) (by decide +kernel))) (hts _ (List.mem_of_getElem? (i := 11) (by decide +kernel))) rfl (by rw [hml]; exact hl.1) rfl dX11_init_1 (Nat.le_of_ble_eq_true rfl) (Nat.le_of_ble_eq_true rfl) ?_
  refine W.eq (g2 := F0 m 4 ls []) rfl ?_
  refine lv_aload_n hx hb dX11_init_4 rfl (lv_at hl 0 rfl) ?_
  refine va_new (ci := 5) (fs := [.null, .null, .null, .null, .null, .int 0]) (C := RX5) (T := TX5) (N := 6) hx hb hts inlX5 tyX5 tyX5_ok hown (hts (Cond.classLink RX11 7 RX5) (List.mem_of_getElem? (i := 12) (by decide +kernel))) (hts (Cond.instantiable RX5 6) (List.mem_of_getElem? (i := 13) (by decide +kernel))) (hts (Cond.initialized RX5) (List.mem_of_getElem? (i := 14) (by decide +kernel))) hK hP hD hS hA rfl (by decide +kernel) (Nat.le_of_ble_eq_true rfl) (Nat.le_of_ble_eq_true rfl) dX11_init_5 (fun q1 H hP hD hS => ?_)
  refine lv_dup hx hb dX11_init_8 rfl ?_
  refine y_initN C (yk5 l) hP hD hS hA hl.1 yw5 (List.mem_of_getElem? (i := 0) rfl) ⟨(Nat.le_of_ble_eq_true rfl), (Nat.le_of_ble_eq_true rfl)⟩ (Nat.le_of_ble_eq_true rfl) dX11_init_9 ⟨(Nat.le_of_ble_eq_true rfl), (Nat.le_of_ble_eq_true rfl)⟩ (fun u1 H locs hP hD hS => ?_)
  have hP : va_P D vwCl ((h, .inr (11, [.null, .null, .int 0, .null, .null, .null, .null, .int 0, .int 0])) :: ([] ++ w5 c3 q1 u1)) H := hP
  have hD : va_D A ((h, .inr (11, [.null, .null, .int 0, .null, .null, .null, .null, .int 0, .int 0])) :: ([] ++ w5 c3 q1 u1)) := hD
  refine va_putF (D := D) (ci := 11) (v := .ref q1) (ty := .object "SevenUnsaid$Round") (C := RX11) (T := TX11) (N := 9) hx hb hts inlX11 tyX11 tyX11_ok nmX11 hown hK hP hD hS 0 rfl rfl 0 (by decide) (hts (Cond.fieldLink RX11 10 "SevenUnsaid" "now" "LSevenUnsaid$Round;") (List.mem_of_getElem? (i := 15) (by decide +kernel))) (fun _ h9 => h9) rfl hin rfl (by decide +kernel) rfl rfl (Nat.le_of_ble_eq_true rfl) dX11_init_12 (fun H locs hP hD hS => ?_)
  have hP : va_P D vwCl ((h, .inr (11, [.ref q1, .null, .int 0, .null, .null, .null, .null, .int 0, .int 0])) :: ([] ++ w5 c3 q1 u1)) H := hP
  have hD : va_D A ((h, .inr (11, [.ref q1, .null, .int 0, .null, .null, .null, .null, .int 0, .int 0])) :: ([] ++ w5 c3 q1 u1)) := hD
  refine lv_aload_n hx hb dX11_init_15 rfl (lv_at hl 0 rfl) ?_
  refine va_new (ci := 5) (fs := [.null, .null, .null, .null, .null, .int 0]) (C := RX5) (T := TX5) (N := 6) hx hb hts inlX5 tyX5 tyX5_ok hown (hts (Cond.classLink RX11 7 RX5) (List.mem_of_getElem? (i := 12) (by decide +kernel))) (hts (Cond.instantiable RX5 6) (List.mem_of_getElem? (i := 13) (by decide +kernel))) (hts (Cond.initialized RX5) (List.mem_of_getElem? (i := 14) (by decide +kernel))) hK hP hD hS hA rfl (by decide +kernel) (Nat.le_of_ble_eq_true rfl) (Nat.le_of_ble_eq_true rfl) dX11_init_16 (fun q2 H hP hD hS => ?_)
  refine lv_dup hx hb dX11_init_19 rfl ?_
  refine y_initN C (yk5 l) hP hD hS hA hl.1 yw5 (List.mem_of_getElem? (i := 0) rfl) ⟨(Nat.le_of_ble_eq_true rfl), (Nat.le_of_ble_eq_true rfl)⟩ (Nat.le_of_ble_eq_true rfl) dX11_init_20 ⟨(Nat.le_of_ble_eq_true rfl), (Nat.le_of_ble_eq_true rfl)⟩ (fun u2 H locs hP hD hS => ?_)
  have hP : va_P D vwCl ((h, .inr (11, [.ref q1, .null, .int 0, .null, .null, .null, .null, .int 0, .int 0])) :: (([] ++ w5 c3 q1 u1) ++ w5 c3 q2 u2)) H := hP
  have hD : va_D A ((h, .inr (11, [.ref q1, .null, .int 0, .null, .null, .null, .null, .int 0, .int 0])) :: (([] ++ w5 c3 q1 u1) ++ w5 c3 q2 u2)) := hD
  refine va_putF (D := D) (ci := 11) (v := .ref q2) (ty := .object "SevenUnsaid$Round") (C := RX11) (T := TX11) (N := 9) hx hb hts inlX11 tyX11 tyX11_ok nmX11 hown hK hP hD hS 0 rfl rfl 1 (by decide) (hts (Cond.fieldLink RX11 16 "SevenUnsaid" "kept" "LSevenUnsaid$Round;") (List.mem_of_getElem? (i := 16) (by decide +kernel))) (fun _ h9 => h9) rfl hin rfl (by decide +kernel) rfl rfl (Nat.le_of_ble_eq_true rfl) dX11_init_23 (fun H locs hP hD hS => ?_)
  have hP : va_P D vwCl ((h, .inr (11, [.ref q1, .ref q2, .int 0, .null, .null, .null, .null, .int 0, .int 0])) :: (([] ++ w5 c3 q1 u1) ++ w5 c3 q2 u2)) H := hP
  have hD : va_D A ((h, .inr (11, [.ref q1, .ref q2, .int 0, .null, .null, .null, .null, .int 0, .int 0])) :: (([] ++ w5 c3 q1 u1) ++ w5 c3 q2 u2)) := hD
  refine lv_aload_n hx hb dX11_init_26 rfl (lv_at hl 0 rfl) ?_
  refine va_new (ci := 2) (fs := [.int 0, .int 0, .null, .null, .null, .null]) (C := RX2) (T := TX2) (N := 6) hx hb hts inlX2 tyX2 tyX2_ok hown (hts (Cond.classLink RX11 19 RX2) (List.mem_of_getElem? (i := 17) (by decide +kernel))) (hts (Cond.instantiable RX2 6) (List.mem_of_getElem? (i := 18) (by decide +kernel))) (hts (Cond.initialized RX2) (List.mem_of_getElem? (i := 19) (by decide +kernel))) hK hP hD hS hA rfl (by decide +kernel) (Nat.le_of_ble_eq_true rfl) (Nat.le_of_ble_eq_true rfl) dX11_init_27 (fun q3 H hP hD hS => ?_)
  refine lv_dup hx hb dX11_init_30 rfl ?_
  refine y_initP C (yk2 l) hP hD hS hA hl.1 yw2 (List.mem_of_getElem? (i := 90) (by decide +kernel)) ⟨(Nat.le_of_ble_eq_true rfl), (Nat.le_of_ble_eq_true rfl)⟩ (Nat.le_of_ble_eq_true rfl) dX11_init_31 ⟨(Nat.le_of_ble_eq_true rfl), (Nat.le_of_ble_eq_true rfl)⟩ (fun u3 H locs hP hD hS => ?_)
  have hP : va_P D vwCl ((h, .inr (11, [.ref q1, .ref q2, .int 0, .null, .null, .null, .null, .int 0, .int 0])) :: ((([] ++ w5 c3 q1 u1) ++ w5 c3 q2 u2) ++ w2 c3 q3 u3)) H := hP
  have hD : va_D A ((h, .inr (11, [.ref q1, .ref q2, .int 0, .null, .null, .null, .null, .int 0, .int 0])) :: ((([] ++ w5 c3 q1 u1) ++ w5 c3 q2 u2) ++ w2 c3 q3 u3)) := hD
  refine va_putF (D := D) (ci := 11) (v := .ref q3) (ty := .object "SevenUnsaid$History") (C := RX11) (T := TX11) (N := 9) hx hb hts inlX11 tyX11 tyX11_ok nmX11 hown hK hP hD hS 0 rfl rfl 3 (by decide) (hts (Cond.fieldLink RX11 22 "SevenUnsaid" "history" "LSevenUnsaid$History;") (List.mem_of_getElem? (i := 20) (by decide +kernel))) (fun _ h9 => h9) rfl hin rfl (by decide +kernel) rfl rfl (Nat.le_of_ble_eq_true rfl) dX11_init_34 (fun H locs hP hD hS => ?_)
  have hP : va_P D vwCl ((h, .inr (11, [.ref q1, .ref q2, .int 0, .ref q3, .null, .null, .null, .int 0, .int 0])) :: ((([] ++ w5 c3 q1 u1) ++ w5 c3 q2 u2) ++ w2 c3 q3 u3)) H := hP
  have hD : va_D A ((h, .inr (11, [.ref q1, .ref q2, .int 0, .ref q3, .null, .null, .null, .int 0, .int 0])) :: ((([] ++ w5 c3 q1 u1) ++ w5 c3 q2 u2) ++ w2 c3 q3 u3)) := hD
  refine lv_aload_n hx hb dX11_init_37 rfl (lv_at hl 0 rfl) ?_
  refine va_new (ci := 10) (fs := [.int 0, .int 0, .int 0, .int 0, .int 0, .int 0, .int 0, .null, .null, .null, .null]) (C := RX10) (T := TX10) (N := 11) hx hb hts inlX10 tyX10 tyX10_ok hown (hts (Cond.classLink RX11 26 RX10) (List.mem_of_getElem? (i := 21) (by decide +kernel))) (hts (Cond.instantiable RX10 11) (List.mem_of_getElem? (i := 22) (by decide +kernel))) (hts (Cond.initialized RX10) (List.mem_of_getElem? (i := 23) (by decide +kernel))) hK hP hD hS hA rfl (by decide +kernel) (Nat.le_of_ble_eq_true rfl) (Nat.le_of_ble_eq_true rfl) dX11_init_38 (fun q4 H hP hD hS => ?_)
  refine lv_dup hx hb dX11_init_41 rfl ?_
  refine y_initN C (yk10 l) hP hD hS hA hl.1 yw10 (List.mem_of_getElem? (i := 7) rfl) ⟨(Nat.le_of_ble_eq_true rfl), (Nat.le_of_ble_eq_true rfl)⟩ (Nat.le_of_ble_eq_true rfl) dX11_init_42 ⟨(Nat.le_of_ble_eq_true rfl), (Nat.le_of_ble_eq_true rfl)⟩ (fun u4 H locs hP hD hS => ?_)
  have hP : va_P D vwCl ((h, .inr (11, [.ref q1, .ref q2, .int 0, .ref q3, .null, .null, .null, .int 0, .int 0])) :: (((([] ++ w5 c3 q1 u1) ++ w5 c3 q2 u2) ++ w2 c3 q3 u3) ++ w10 c3 q4 u4)) H := hP
  have hD : va_D A ((h, .inr (11, [.ref q1, .ref q2, .int 0, .ref q3, .null, .null, .null, .int 0, .int 0])) :: (((([] ++ w5 c3 q1 u1) ++ w5 c3 q2 u2) ++ w2 c3 q3 u3) ++ w10 c3 q4 u4)) := hD
  refine va_putF (D := D) (ci := 11) (v := .ref q4) (ty := .object "SevenUnsaid$Thought") (C := RX11) (T := TX11) (N := 9) hx hb hts inlX11 tyX11 tyX11_ok nmX11 hown hK hP hD hS 0 rfl rfl 4 (by decide) (hts (Cond.fieldLink RX11 29 "SevenUnsaid" "thought" "LSevenUnsaid$Thought;") (List.mem_of_getElem? (i := 24) (by decide +kernel))) (fun _ h9 => h9) rfl hin rfl (by decide +kernel) rfl rfl (Nat.le_of_ble_eq_true rfl) dX11_init_45 (fun H locs hP hD hS => ?_)
  have hP : va_P D vwCl ((h, .inr (11, [.ref q1, .ref q2, .int 0, .ref q3, .ref q4, .null, .null, .int 0, .int 0])) :: (((([] ++ w5 c3 q1 u1) ++ w5 c3 q2 u2) ++ w2 c3 q3 u3) ++ w10 c3 q4 u4)) H := hP
  have hD : va_D A ((h, .inr (11, [.ref q1, .ref q2, .int 0, .ref q3, .ref q4, .null, .null, .int 0, .int 0])) :: (((([] ++ w5 c3 q1 u1) ++ w5 c3 q2 u2) ++ w2 c3 q3 u3) ++ w10 c3 q4 u4)) := hD
  refine lv_aload_n hx hb dX11_init_48 rfl (lv_at hl 0 rfl) ?_
  refine va_new (ci := 7) (fs := [.int 0, .null, .null, .null, .null]) (C := RX7) (T := TX7) (N := 5) hx hb hts inlX7 tyX7 tyX7_ok hown (hts (Cond.classLink RX11 33 RX7) (List.mem_of_getElem? (i := 25) (by decide +kernel))) (hts (Cond.instantiable RX7 5) (List.mem_of_getElem? (i := 26) (by decide +kernel))) (hts (Cond.initialized RX7) (List.mem_of_getElem? (i := 27) (by decide +kernel))) hK hP hD hS hA rfl (by decide +kernel) (Nat.le_of_ble_eq_true rfl) (Nat.le_of_ble_eq_true rfl) dX11_init_49 (fun q5 H hP hD hS => ?_)
  refine lv_dup hx hb dX11_init_52 rfl ?_
  refine y_initN C (yk7 l) hP hD hS hA hl.1 yw7 (List.mem_of_getElem? (i := 10) rfl) ⟨(Nat.le_of_ble_eq_true rfl), (Nat.le_of_ble_eq_true rfl)⟩ (Nat.le_of_ble_eq_true rfl) dX11_init_53 ⟨(Nat.le_of_ble_eq_true rfl), (Nat.le_of_ble_eq_true rfl)⟩ (fun u5 H locs hP hD hS => ?_)
  have hP : va_P D vwCl ((h, .inr (11, [.ref q1, .ref q2, .int 0, .ref q3, .ref q4, .null, .null, .int 0, .int 0])) :: ((((([] ++ w5 c3 q1 u1) ++ w5 c3 q2 u2) ++ w2 c3 q3 u3) ++ w10 c3 q4 u4) ++ w7 c3 q5 u5)) H := hP
  have hD : va_D A ((h, .inr (11, [.ref q1, .ref q2, .int 0, .ref q3, .ref q4, .null, .null, .int 0, .int 0])) :: ((((([] ++ w5 c3 q1 u1) ++ w5 c3 q2 u2) ++ w2 c3 q3 u3) ++ w10 c3 q4 u4) ++ w7 c3 q5 u5)) := hD
  refine va_putF (D := D) (ci := 11) (v := .ref q5) (ty := .object "SevenUnsaid$Seating") (C := RX11) (T := TX11) (N := 9) hx hb hts inlX11 tyX11 tyX11_ok nmX11 hown hK hP hD hS 0 rfl rfl 5 (by decide) (hts (Cond.fieldLink RX11 36 "SevenUnsaid" "seats" "LSevenUnsaid$Seating;") (List.mem_of_getElem? (i := 28) (by decide +kernel))) (fun _ h9 => h9) rfl hin rfl (by decide +kernel) rfl rfl (Nat.le_of_ble_eq_true rfl) dX11_init_56 (fun H locs hP hD hS => ?_)
  have hP : va_P D vwCl ((h, .inr (11, [.ref q1, .ref q2, .int 0, .ref q3, .ref q4, .ref q5, .null, .int 0, .int 0])) :: ((((([] ++ w5 c3 q1 u1) ++ w5 c3 q2 u2) ++ w2 c3 q3 u3) ++ w10 c3 q4 u4) ++ w7 c3 q5 u5)) H := hP
  have hD : va_D A ((h, .inr (11, [.ref q1, .ref q2, .int 0, .ref q3, .ref q4, .ref q5, .null, .int 0, .int 0])) :: ((((([] ++ w5 c3 q1 u1) ++ w5 c3 q2 u2) ++ w2 c3 q3 u3) ++ w10 c3 q4 u4) ++ w7 c3 q5 u5)) := hD
  refine lv_aload_n hx hb dX11_init_59 rfl (lv_at hl 0 rfl) ?_
  refine va_new (ci := 4) (fs := [.null, .null, .int 0, .int 0, .int 0, .int 0, .int 0, .null, .int 0]) (C := RX4) (T := TX4) (N := 9) hx hb hts inlX4 tyX4 tyX4_ok hown (hts (Cond.classLink RX11 40 RX4) (List.mem_of_getElem? (i := 29) (by decide +kernel))) (hts (Cond.instantiable RX4 9) (List.mem_of_getElem? (i := 30) (by decide +kernel))) (hts (Cond.initialized RX4) (List.mem_of_getElem? (i := 31) (by decide +kernel))) hK hP hD hS hA rfl (by decide +kernel) (Nat.le_of_ble_eq_true rfl) (Nat.le_of_ble_eq_true rfl) dX11_init_60 (fun q6 H hP hD hS => ?_)
  refine lv_dup hx hb dX11_init_63 rfl ?_
  refine y_initN C (yk4 l) hP hD hS hA hl.1 yw4 (List.mem_of_getElem? (i := 11) rfl) ⟨(Nat.le_of_ble_eq_true rfl), (Nat.le_of_ble_eq_true rfl)⟩ (Nat.le_of_ble_eq_true rfl) dX11_init_64 ⟨(Nat.le_of_ble_eq_true rfl), (Nat.le_of_ble_eq_true rfl)⟩ (fun u6 H locs hP hD hS => ?_)
  have hP : va_P D vwCl ((h, .inr (11, [.ref q1, .ref q2, .int 0, .ref q3, .ref q4, .ref q5, .null, .int 0, .int 0])) :: (((((([] ++ w5 c3 q1 u1) ++ w5 c3 q2 u2) ++ w2 c3 q3 u3) ++ w10 c3 q4 u4) ++ w7 c3 q5 u5) ++ w4 c3 q6 u6)) H := hP
  have hD : va_D A ((h, .inr (11, [.ref q1, .ref q2, .int 0, .ref q3, .ref q4, .ref q5, .null, .int 0, .int 0])) :: (((((([] ++ w5 c3 q1 u1) ++ w5 c3 q2 u2) ++ w2 c3 q3 u3) ++ w10 c3 q4 u4) ++ w7 c3 q5 u5) ++ w4 c3 q6 u6)) := hD
  refine va_putF (D := D) (ci := 11) (v := .ref q6) (ty := .object "SevenUnsaid$LawMaker") (C := RX11) (T := TX11) (N := 9) hx hb hts inlX11 tyX11 tyX11_ok nmX11 hown hK hP hD hS 0 rfl rfl 6 (by decide) (hts (Cond.fieldLink RX11 43 "SevenUnsaid" "lawMaker" "LSevenUnsaid$LawMaker;") (List.mem_of_getElem? (i := 32) (by decide +kernel))) (fun _ h9 => h9) rfl hin rfl (by decide +kernel) rfl rfl (Nat.le_of_ble_eq_true rfl) dX11_init_67 (fun H locs hP hD hS => ?_)
  have hP : va_P D vwCl ((h, .inr (11, [.ref q1, .ref q2, .int 0, .ref q3, .ref q4, .ref q5, .ref q6, .int 0, .int 0])) :: (((((([] ++ w5 c3 q1 u1) ++ w5 c3 q2 u2) ++ w2 c3 q3 u3) ++ w10 c3 q4 u4) ++ w7 c3 q5 u5) ++ w4 c3 q6 u6)) H := hP
  have hD : va_D A ((h, .inr (11, [.ref q1, .ref q2, .int 0, .ref q3, .ref q4, .ref q5, .ref q6, .int 0, .int 0])) :: (((((([] ++ w5 c3 q1 u1) ++ w5 c3 q2 u2) ++ w2 c3 q3 u3) ++ w10 c3 q4 u4) ++ w7 c3 q5 u5) ++ w4 c3 q6 u6)) := hD
  refine lv_aload_n hx hb dX11_init_70 rfl (lv_at hl 0 rfl) ?_
  refine lv_iconst (v := (-1)) hx hb dX11_init_71 (by decide) ?_
  refine va_put (D := D) (ci := 11) (v := .int (-1)) (ty := .int) (C := RX11) (T := TX11) (N := 9) hx hb hts inlX11 tyX11 tyX11_ok nmX11 hown hK hP hD hS 0 rfl rfl 8 (by decide) (hts (Cond.fieldLink RX11 47 "SevenUnsaid" "faultPlace" "I") (List.mem_of_getElem? (i := 33) (by decide +kernel))) (fun _ h9 => h9) rfl (by decide +kernel) rfl rfl (Nat.le_of_ble_eq_true rfl) dX11_init_72 (fun H locs hP hD hS => ?_)
  have hP : va_P D vwCl ((h, .inr (11, [.ref q1, .ref q2, .int 0, .ref q3, .ref q4, .ref q5, .ref q6, .int 0, .int (-1)])) :: (((((([] ++ w5 c3 q1 u1) ++ w5 c3 q2 u2) ++ w2 c3 q3 u3) ++ w10 c3 q4 u4) ++ w7 c3 q5 u5) ++ w4 c3 q6 u6)) H := hP
  have hD : va_D A ((h, .inr (11, [.ref q1, .ref q2, .int 0, .ref q3, .ref q4, .ref q5, .ref q6, .int 0, .int (-1)])) :: (((((([] ++ w5 c3 q1 u1) ++ w5 c3 q2 u2) ++ w2 c3 q3 u3) ++ w10 c3 q4 u4) ++ w7 c3 q5 u5) ++ w4 c3 q6 u6)) := hD
  exact kk ((q1, u1), (q2, u2), (q3, u3), (q4, u4), (q5, u5), (q6, u6)) _ _ _ _ dX11_init_75 hP hD hS
theorem dX12_init_0 : decode cX12_init 0 = .ok (.aload_n 0, 1) := by decide +kernel
theorem dX12_init_1 : decode cX12_init 1 = .ok (.invokespecial 1, 3) := by decide +kernel
theorem dX12_init_4 : decode cX12_init 4 = .ok (.aload_n 0, 1) := by decide +kernel
theorem dX12_init_5 : decode cX12_init 5 = .ok (.sipush 1370, 3) := by decide +kernel
theorem dX12_init_8 : decode cX12_init 8 = .ok (.newarray .int, 2) := by decide +kernel
theorem dX12_init_10 : decode cX12_init 10 = .ok (.putfield 7, 3) := by decide +kernel
theorem dX12_init_13 : decode cX12_init 13 = .ok (.aload_n 0, 1) := by decide +kernel
theorem dX12_init_14 : decode cX12_init 14 = .ok (.sipush 1370, 3) := by decide +kernel
theorem dX12_init_17 : decode cX12_init 17 = .ok (.newarray .int, 2) := by decide +kernel
theorem dX12_init_19 : decode cX12_init 19 = .ok (.putfield 13, 3) := by decide +kernel
theorem dX12_init_22 : decode cX12_init 22 = .ok (.aload_n 0, 1) := by decide +kernel
theorem dX12_init_23 : decode cX12_init 23 = .ok (.sipush 170, 3) := by decide +kernel
theorem dX12_init_26 : decode cX12_init 26 = .ok (.newarray .int, 2) := by decide +kernel
theorem dX12_init_28 : decode cX12_init 28 = .ok (.putfield 16, 3) := by decide +kernel
theorem dX12_init_31 : decode cX12_init 31 = .ok (.aload_n 0, 1) := by decide +kernel
theorem dX12_init_32 : decode cX12_init 32 = .ok (.bipush 48, 2) := by decide +kernel
theorem dX12_init_34 : decode cX12_init 34 = .ok (.newarray .int, 2) := by decide +kernel
theorem dX12_init_36 : decode cX12_init 36 = .ok (.putfield 19, 3) := by decide +kernel
theorem dX12_init_39 : decode cX12_init 39 = .ok (.aload_n 0, 1) := by decide +kernel
theorem dX12_init_40 : decode cX12_init 40 = .ok (.sipush 820, 3) := by decide +kernel
theorem dX12_init_43 : decode cX12_init 43 = .ok (.newarray .int, 2) := by decide +kernel
theorem dX12_init_45 : decode cX12_init 45 = .ok (.putfield 22, 3) := by decide +kernel
theorem dX12_init_48 : decode cX12_init 48 = .ok (.aload_n 0, 1) := by decide +kernel
theorem dX12_init_49 : decode cX12_init 49 = .ok (.sipush 400, 3) := by decide +kernel
theorem dX12_init_52 : decode cX12_init 52 = .ok (.newarray .int, 2) := by decide +kernel
theorem dX12_init_54 : decode cX12_init 54 = .ok (.putfield 25, 3) := by decide +kernel
theorem dX12_init_57 : decode cX12_init 57 = .ok (.aload_n 0, 1) := by decide +kernel
theorem dX12_init_58 : decode cX12_init 58 = .ok (.sipush 420, 3) := by decide +kernel
theorem dX12_init_61 : decode cX12_init 61 = .ok (.newarray .int, 2) := by decide +kernel
theorem dX12_init_63 : decode cX12_init 63 = .ok (.putfield 28, 3) := by decide +kernel
theorem dX12_init_66 : decode cX12_init 66 = .ok (.aload_n 0, 1) := by decide +kernel
theorem dX12_init_67 : decode cX12_init 67 = .ok (.bipush 8, 2) := by decide +kernel
theorem dX12_init_69 : decode cX12_init 69 = .ok (.newarray .int, 2) := by decide +kernel
theorem dX12_init_71 : decode cX12_init 71 = .ok (.putfield 31, 3) := by decide +kernel
theorem dX12_init_74 : decode cX12_init 74 = .ok (.aload_n 0, 1) := by decide +kernel
theorem dX12_init_75 : decode cX12_init 75 = .ok (.iconst (-1), 1) := by decide +kernel
theorem dX12_init_76 : decode cX12_init 76 = .ok (.putfield 34, 3) := by decide +kernel
theorem dX12_init_79 : decode cX12_init 79 = .ok (.aload_n 0, 1) := by decide +kernel
theorem dX12_init_80 : decode cX12_init 80 = .ok (.bipush 8, 2) := by decide +kernel
theorem dX12_init_82 : decode cX12_init 82 = .ok (.newarray .int, 2) := by decide +kernel
theorem dX12_init_84 : decode cX12_init 84 = .ok (.putfield 38, 3) := by decide +kernel
theorem dX12_init_87 : decode cX12_init 87 = .ok (.aload_n 0, 1) := by decide +kernel
theorem dX12_init_88 : decode cX12_init 88 = .ok (.bipush 8, 2) := by decide +kernel
theorem dX12_init_90 : decode cX12_init 90 = .ok (.newarray .int, 2) := by decide +kernel
theorem dX12_init_92 : decode cX12_init 92 = .ok (.putfield 41, 3) := by decide +kernel
theorem dX12_init_95 : decode cX12_init 95 = .ok (.aload_n 0, 1) := by decide +kernel
theorem dX12_init_96 : decode cX12_init 96 = .ok (.bipush 8, 2) := by decide +kernel
theorem dX12_init_98 : decode cX12_init 98 = .ok (.newarray .int, 2) := by decide +kernel
theorem dX12_init_100 : decode cX12_init 100 = .ok (.putfield 44, 3) := by decide +kernel
theorem dX12_init_103 : decode cX12_init 103 = .ok (.aload_n 0, 1) := by decide +kernel
theorem dX12_init_104 : decode cX12_init 104 = .ok (.getfield 7, 3) := by decide +kernel
theorem dX12_init_107 : decode cX12_init 107 = .ok (.iconst 0, 1) := by decide +kernel
theorem dX12_init_108 : decode cX12_init 108 = .ok (.iconst 1, 1) := by decide +kernel
theorem dX12_init_109 : decode cX12_init 109 = .ok (.iastore, 1) := by decide +kernel
theorem dX12_init_110 : decode cX12_init 110 = .ok (.aload_n 0, 1) := by decide +kernel
theorem dX12_init_111 : decode cX12_init 111 = .ok (.getfield 7, 3) := by decide +kernel
theorem dX12_init_114 : decode cX12_init 114 = .ok (.iconst 2, 1) := by decide +kernel
theorem dX12_init_115 : decode cX12_init 115 = .ok (.iconst 1, 1) := by decide +kernel
theorem dX12_init_116 : decode cX12_init 116 = .ok (.iastore, 1) := by decide +kernel
theorem dX12_init_117 : decode cX12_init 117 = .ok (.aload_n 0, 1) := by decide +kernel
theorem dX12_init_118 : decode cX12_init 118 = .ok (.getfield 7, 3) := by decide +kernel
theorem dX12_init_121 : decode cX12_init 121 = .ok (.bipush 8, 2) := by decide +kernel
theorem dX12_init_123 : decode cX12_init 123 = .ok (.iconst (-1), 1) := by decide +kernel
theorem dX12_init_124 : decode cX12_init 124 = .ok (.iastore, 1) := by decide +kernel
theorem dX12_init_125 : decode cX12_init 125 = .ok (.return_, 1) := by decide +kernel
abbrev S12 : Type := Nat × Nat × Nat × Nat × Nat × Nat × Nat × Nat × Nat × Nat × Nat
def w12 (c3 : yI3) (h : Nat) (u : S12) : va_W := ((h, .inr (12, [.ref (u.1), .ref (u.2.1), .ref (u.2.2.1), .int 0, .int 0, .ref (u.2.2.2.1), .ref (u.2.2.2.2.1), .ref (u.2.2.2.2.2.1), .ref (u.2.2.2.2.2.2.1), .ref (u.2.2.2.2.2.2.2.1), .int 0, .int 0, .int 0, .int 0, .int 0, .int 0, .int 0, .int 0, .int 0, .int 0, .int 0, .int (-1), .int 0, .int 0, .int 0, .int 0, .int 0, .ref (u.2.2.2.2.2.2.2.2.1), .ref (u.2.2.2.2.2.2.2.2.2.1), .ref (u.2.2.2.2.2.2.2.2.2.2), .int 0])) :: ((((((((((([] ++ [((u.1), .inl (c3.1, 1370, .inl (upd (upd (upd (fun _ => 0) 0 1) 2 1) 8 (-1))))]) ++ yZ c3.1 (u.2.1) 1370) ++ yZ c3.1 (u.2.2.1) 170) ++ yZ c3.1 (u.2.2.2.1) 48) ++ yZ c3.1 (u.2.2.2.2.1) 820) ++ yZ c3.1 (u.2.2.2.2.2.1) 400) ++ yZ c3.1 (u.2.2.2.2.2.2.1) 420) ++ yZ c3.1 (u.2.2.2.2.2.2.2.1) 8) ++ yZ c3.1 (u.2.2.2.2.2.2.2.2.1) 8) ++ yZ c3.1 (u.2.2.2.2.2.2.2.2.2.1) 8) ++ yZ c3.1 (u.2.2.2.2.2.2.2.2.2.2) 8))
theorem yw12 : yWd yX12_init cX12_init 1 := ⟨(List.mem_of_getElem? (i := 135) (by decide +kernel)), (List.mem_of_getElem? (i := 134) (by decide +kernel)), (List.mem_of_getElem? (i := 5) (by decide +kernel)), rfl, by decide, by decide, by decide +kernel⟩
set_option maxHeartbeats 4000000 in
set_option maxRecDepth 100000 in
theorem yk12 (l : Launch) : yMk l yX12_init cX12_init 1 12 [.null, .null, .null, .int 0, .int 0, .null, .null, .null, .null, .null, .int 0, .int 0, .int 0, .int 0, .int 0, .int 0, .int 0, .int 0, .int 0, .int 0, .int 0, .int 0, .int 0, .int 0, .int 0, .int 0, .int 0, .null, .null, .null, .int 0] w12 1 11 4630 := by
  refine yMk.of (by decide +kernel) rfl (by decide) ?_
  intro p e s m below meth c D c3 h A Q ls C hin hA hP hD hS hl kk
  have hown : s.vm.findClass RX12 = some m.cls := C.2.2.2.1
  have hx := C.1
  have hb := C.2.1
  have hml := C.2.2.1
  have hts := C.2.2.2.2.1
  have hK := C.2.2.2.2.2.1
  have hP : va_P D vwCl ((h, .inr (12, [.null, .null, .null, .int 0, .int 0, .null, .null, .null, .null, .null, .int 0, .int 0, .int 0, .int 0, .int 0, .int 0, .int 0, .int 0, .int 0, .int 0, .int 0, .int 0, .int 0, .int 0, .int 0, .int 0, .int 0, .null, .null, .null, .int 0])) :: []) s.heap := hP
  have hD : va_D A ((h, .inr (12, [.null, .null, .null, .int 0, .int 0, .null, .null, .null, .null, .null, .int 0, .int 0, .int 0, .int 0, .int 0, .int 0, .int 0, .int 0, .int 0, .int 0, .int 0, .int 0, .int 0, .int 0, .int 0, .int 0, .int 0, .null, .null, .null, .int 0])) :: []) := hD
  refine lv_aload_n hx hb dX12_init_0 rfl (lv_at hl 0 rfl) ?_
  refine W.objInit hx hb hown (hts (Cond.methodLink RX12 1 objectInit) (List.mem_of_getElem? (i := 136) (by decide +kernel))) (hts (Cond.instanceMethod objectInit) (List.mem_of_getElem? (i := 10) (by decide +kernel))) (hts _ (List.mem_of_getElem? (i := 11) (by decide +kernel))) rfl (by rw [hml]; exact hl.1) rfl dX12_init_1 (Nat.le_of_ble_eq_true rfl) (Nat.le_of_ble_eq_true rfl) ?_
  refine W.eq (g2 := F0 m 4 ls []) rfl ?_
  refine lv_aload_n hx hb dX12_init_4 rfl (lv_at hl 0 rfl) ?_
  refine lv_sipush (v := 1370) hx hb dX12_init_5 (by decide) ?_
  refine y_newi C hP hD hS hA 1370 (by decide) (by decide) (Nat.le_of_ble_eq_true rfl) (Nat.le_of_ble_eq_true rfl) (Nat.le_of_ble_eq_true rfl) dX12_init_8 (fun q1 H hP hD hS => ?_)
  have hP : va_P D vwCl ((h, .inr (12, [.null, .null, .null, .int 0, .int 0, .null, .null, .null, .null, .null, .int 0, .int 0, .int 0, .int 0, .int 0, .int 0, .int 0, .int 0, .int 0, .int 0, .int 0, .int 0, .int 0, .int 0, .int 0, .int 0, .int 0, .null, .null, .null, .int 0])) :: ([] ++ yZ c3.1 q1 1370)) H := hP
  have hD : va_D A ((h, .inr (12, [.null, .null, .null, .int 0, .int 0, .null, .null, .null, .null, .null, .int 0, .int 0, .int 0, .int 0, .int 0, .int 0, .int 0, .int 0, .int 0, .int 0, .int 0, .int 0, .int 0, .int 0, .int 0, .int 0, .int 0, .null, .null, .null, .int 0])) :: ([] ++ yZ c3.1 q1 1370)) := hD
  refine va_putF (D := D) (ci := 12) (v := .ref q1) (ty := .array .int) (C := RX12) (T := TX12) (N := 31) hx hb hts inlX12 tyX12 tyX12_ok nmX12 hown hK hP hD hS 0 rfl rfl 0 (by decide) (hts (Cond.fieldLink RX12 7 "SevenUnsaidModel" "w" "[I") (List.mem_of_getElem? (i := 137) (by decide +kernel))) (fun _ h9 => h9) rfl hin rfl (by decide +kernel) rfl rfl (Nat.le_of_ble_eq_true rfl) dX12_init_10 (fun H locs hP hD hS => ?_)
  have hP : va_P D vwCl ((h, .inr (12, [.ref q1, .null, .null, .int 0, .int 0, .null, .null, .null, .null, .null, .int 0, .int 0, .int 0, .int 0, .int 0, .int 0, .int 0, .int 0, .int 0, .int 0, .int 0, .int 0, .int 0, .int 0, .int 0, .int 0, .int 0, .null, .null, .null, .int 0])) :: ([] ++ yZ c3.1 q1 1370)) H := hP
  have hD : va_D A ((h, .inr (12, [.ref q1, .null, .null, .int 0, .int 0, .null, .null, .null, .null, .null, .int 0, .int 0, .int 0, .int 0, .int 0, .int 0, .int 0, .int 0, .int 0, .int 0, .int 0, .int 0, .int 0, .int 0, .int 0, .int 0, .int 0, .null, .null, .null, .int 0])) :: ([] ++ yZ c3.1 q1 1370)) := hD
  refine lv_aload_n hx hb dX12_init_13 rfl (lv_at hl 0 rfl) ?_
  refine lv_sipush (v := 1370) hx hb dX12_init_14 (by decide) ?_
  refine y_newi C hP hD hS hA 1370 (by decide) (by decide) (Nat.le_of_ble_eq_true rfl) (Nat.le_of_ble_eq_true rfl) (Nat.le_of_ble_eq_true rfl) dX12_init_17 (fun q2 H hP hD hS => ?_)
  have hP : va_P D vwCl ((h, .inr (12, [.ref q1, .null, .null, .int 0, .int 0, .null, .null, .null, .null, .null, .int 0, .int 0, .int 0, .int 0, .int 0, .int 0, .int 0, .int 0, .int 0, .int 0, .int 0, .int 0, .int 0, .int 0, .int 0, .int 0, .int 0, .null, .null, .null, .int 0])) :: (([] ++ yZ c3.1 q1 1370) ++ yZ c3.1 q2 1370)) H := hP
  have hD : va_D A ((h, .inr (12, [.ref q1, .null, .null, .int 0, .int 0, .null, .null, .null, .null, .null, .int 0, .int 0, .int 0, .int 0, .int 0, .int 0, .int 0, .int 0, .int 0, .int 0, .int 0, .int 0, .int 0, .int 0, .int 0, .int 0, .int 0, .null, .null, .null, .int 0])) :: (([] ++ yZ c3.1 q1 1370) ++ yZ c3.1 q2 1370)) := hD
  refine va_putF (D := D) (ci := 12) (v := .ref q2) (ty := .array .int) (C := RX12) (T := TX12) (N := 31) hx hb hts inlX12 tyX12 tyX12_ok nmX12 hown hK hP hD hS 0 rfl rfl 1 (by decide) (hts (Cond.fieldLink RX12 13 "SevenUnsaidModel" "kept" "[I") (List.mem_of_getElem? (i := 138) (by decide +kernel))) (fun _ h9 => h9) rfl hin rfl (by decide +kernel) rfl rfl (Nat.le_of_ble_eq_true rfl) dX12_init_19 (fun H locs hP hD hS => ?_)
  have hP : va_P D vwCl ((h, .inr (12, [.ref q1, .ref q2, .null, .int 0, .int 0, .null, .null, .null, .null, .null, .int 0, .int 0, .int 0, .int 0, .int 0, .int 0, .int 0, .int 0, .int 0, .int 0, .int 0, .int 0, .int 0, .int 0, .int 0, .int 0, .int 0, .null, .null, .null, .int 0])) :: (([] ++ yZ c3.1 q1 1370) ++ yZ c3.1 q2 1370)) H := hP
  have hD : va_D A ((h, .inr (12, [.ref q1, .ref q2, .null, .int 0, .int 0, .null, .null, .null, .null, .null, .int 0, .int 0, .int 0, .int 0, .int 0, .int 0, .int 0, .int 0, .int 0, .int 0, .int 0, .int 0, .int 0, .int 0, .int 0, .int 0, .int 0, .null, .null, .null, .int 0])) :: (([] ++ yZ c3.1 q1 1370) ++ yZ c3.1 q2 1370)) := hD
  refine lv_aload_n hx hb dX12_init_22 rfl (lv_at hl 0 rfl) ?_
  refine lv_sipush (v := 170) hx hb dX12_init_23 (by decide) ?_
  refine y_newi C hP hD hS hA 170 (by decide) (by decide) (Nat.le_of_ble_eq_true rfl) (Nat.le_of_ble_eq_true rfl) (Nat.le_of_ble_eq_true rfl) dX12_init_26 (fun q3 H hP hD hS => ?_)
  have hP : va_P D vwCl ((h, .inr (12, [.ref q1, .ref q2, .null, .int 0, .int 0, .null, .null, .null, .null, .null, .int 0, .int 0, .int 0, .int 0, .int 0, .int 0, .int 0, .int 0, .int 0, .int 0, .int 0, .int 0, .int 0, .int 0, .int 0, .int 0, .int 0, .null, .null, .null, .int 0])) :: ((([] ++ yZ c3.1 q1 1370) ++ yZ c3.1 q2 1370) ++ yZ c3.1 q3 170)) H := hP
  have hD : va_D A ((h, .inr (12, [.ref q1, .ref q2, .null, .int 0, .int 0, .null, .null, .null, .null, .null, .int 0, .int 0, .int 0, .int 0, .int 0, .int 0, .int 0, .int 0, .int 0, .int 0, .int 0, .int 0, .int 0, .int 0, .int 0, .int 0, .int 0, .null, .null, .null, .int 0])) :: ((([] ++ yZ c3.1 q1 1370) ++ yZ c3.1 q2 1370) ++ yZ c3.1 q3 170)) := hD
  refine va_putF (D := D) (ci := 12) (v := .ref q3) (ty := .array .int) (C := RX12) (T := TX12) (N := 31) hx hb hts inlX12 tyX12 tyX12_ok nmX12 hown hK hP hD hS 0 rfl rfl 2 (by decide) (hts (Cond.fieldLink RX12 16 "SevenUnsaidModel" "back" "[I") (List.mem_of_getElem? (i := 139) (by decide +kernel))) (fun _ h9 => h9) rfl hin rfl (by decide +kernel) rfl rfl (Nat.le_of_ble_eq_true rfl) dX12_init_28 (fun H locs hP hD hS => ?_)
  have hP : va_P D vwCl ((h, .inr (12, [.ref q1, .ref q2, .ref q3, .int 0, .int 0, .null, .null, .null, .null, .null, .int 0, .int 0, .int 0, .int 0, .int 0, .int 0, .int 0, .int 0, .int 0, .int 0, .int 0, .int 0, .int 0, .int 0, .int 0, .int 0, .int 0, .null, .null, .null, .int 0])) :: ((([] ++ yZ c3.1 q1 1370) ++ yZ c3.1 q2 1370) ++ yZ c3.1 q3 170)) H := hP
  have hD : va_D A ((h, .inr (12, [.ref q1, .ref q2, .ref q3, .int 0, .int 0, .null, .null, .null, .null, .null, .int 0, .int 0, .int 0, .int 0, .int 0, .int 0, .int 0, .int 0, .int 0, .int 0, .int 0, .int 0, .int 0, .int 0, .int 0, .int 0, .int 0, .null, .null, .null, .int 0])) :: ((([] ++ yZ c3.1 q1 1370) ++ yZ c3.1 q2 1370) ++ yZ c3.1 q3 170)) := hD
  refine lv_aload_n hx hb dX12_init_31 rfl (lv_at hl 0 rfl) ?_
  refine lv_bipush (v := 48) hx hb dX12_init_32 (by decide) ?_
  refine y_newi C hP hD hS hA 48 (by decide) (by decide) (Nat.le_of_ble_eq_true rfl) (Nat.le_of_ble_eq_true rfl) (Nat.le_of_ble_eq_true rfl) dX12_init_34 (fun q4 H hP hD hS => ?_)
  have hP : va_P D vwCl ((h, .inr (12, [.ref q1, .ref q2, .ref q3, .int 0, .int 0, .null, .null, .null, .null, .null, .int 0, .int 0, .int 0, .int 0, .int 0, .int 0, .int 0, .int 0, .int 0, .int 0, .int 0, .int 0, .int 0, .int 0, .int 0, .int 0, .int 0, .null, .null, .null, .int 0])) :: (((([] ++ yZ c3.1 q1 1370) ++ yZ c3.1 q2 1370) ++ yZ c3.1 q3 170) ++ yZ c3.1 q4 48)) H := hP
  have hD : va_D A ((h, .inr (12, [.ref q1, .ref q2, .ref q3, .int 0, .int 0, .null, .null, .null, .null, .null, .int 0, .int 0, .int 0, .int 0, .int 0, .int 0, .int 0, .int 0, .int 0, .int 0, .int 0, .int 0, .int 0, .int 0, .int 0, .int 0, .int 0, .null, .null, .null, .int 0])) :: (((([] ++ yZ c3.1 q1 1370) ++ yZ c3.1 q2 1370) ++ yZ c3.1 q3 170) ++ yZ c3.1 q4 48)) := hD
  refine va_putF (D := D) (ci := 12) (v := .ref q4) (ty := .array .int) (C := RX12) (T := TX12) (N := 31) hx hb hts inlX12 tyX12 tyX12_ok nmX12 hown hK hP hD hS 0 rfl rfl 5 (by decide) (hts (Cond.fieldLink RX12 19 "SevenUnsaidModel" "freshLine" "[I") (List.mem_of_getElem? (i := 140) (by decide +kernel))) (fun _ h9 => h9) rfl hin rfl (by decide +kernel) rfl rfl (Nat.le_of_ble_eq_true rfl) dX12_init_36 (fun H locs hP hD hS => ?_)
  have hP : va_P D vwCl ((h, .inr (12, [.ref q1, .ref q2, .ref q3, .int 0, .int 0, .ref q4, .null, .null, .null, .null, .int 0, .int 0, .int 0, .int 0, .int 0, .int 0, .int 0, .int 0, .int 0, .int 0, .int 0, .int 0, .int 0, .int 0, .int 0, .int 0, .int 0, .null, .null, .null, .int 0])) :: (((([] ++ yZ c3.1 q1 1370) ++ yZ c3.1 q2 1370) ++ yZ c3.1 q3 170) ++ yZ c3.1 q4 48)) H := hP
  have hD : va_D A ((h, .inr (12, [.ref q1, .ref q2, .ref q3, .int 0, .int 0, .ref q4, .null, .null, .null, .null, .int 0, .int 0, .int 0, .int 0, .int 0, .int 0, .int 0, .int 0, .int 0, .int 0, .int 0, .int 0, .int 0, .int 0, .int 0, .int 0, .int 0, .null, .null, .null, .int 0])) :: (((([] ++ yZ c3.1 q1 1370) ++ yZ c3.1 q2 1370) ++ yZ c3.1 q3 170) ++ yZ c3.1 q4 48)) := hD
  refine lv_aload_n hx hb dX12_init_39 rfl (lv_at hl 0 rfl) ?_
  refine lv_sipush (v := 820) hx hb dX12_init_40 (by decide) ?_
  refine y_newi C hP hD hS hA 820 (by decide) (by decide) (Nat.le_of_ble_eq_true rfl) (Nat.le_of_ble_eq_true rfl) (Nat.le_of_ble_eq_true rfl) dX12_init_43 (fun q5 H hP hD hS => ?_)
  have hP : va_P D vwCl ((h, .inr (12, [.ref q1, .ref q2, .ref q3, .int 0, .int 0, .ref q4, .null, .null, .null, .null, .int 0, .int 0, .int 0, .int 0, .int 0, .int 0, .int 0, .int 0, .int 0, .int 0, .int 0, .int 0, .int 0, .int 0, .int 0, .int 0, .int 0, .null, .null, .null, .int 0])) :: ((((([] ++ yZ c3.1 q1 1370) ++ yZ c3.1 q2 1370) ++ yZ c3.1 q3 170) ++ yZ c3.1 q4 48) ++ yZ c3.1 q5 820)) H := hP
  have hD : va_D A ((h, .inr (12, [.ref q1, .ref q2, .ref q3, .int 0, .int 0, .ref q4, .null, .null, .null, .null, .int 0, .int 0, .int 0, .int 0, .int 0, .int 0, .int 0, .int 0, .int 0, .int 0, .int 0, .int 0, .int 0, .int 0, .int 0, .int 0, .int 0, .null, .null, .null, .int 0])) :: ((((([] ++ yZ c3.1 q1 1370) ++ yZ c3.1 q2 1370) ++ yZ c3.1 q3 170) ++ yZ c3.1 q4 48) ++ yZ c3.1 q5 820)) := hD
  refine va_putF (D := D) (ci := 12) (v := .ref q5) (ty := .array .int) (C := RX12) (T := TX12) (N := 31) hx hb hts inlX12 tyX12 tyX12_ok nmX12 hown hK hP hD hS 0 rfl rfl 6 (by decide) (hts (Cond.fieldLink RX12 22 "SevenUnsaidModel" "freshStep" "[I") (List.mem_of_getElem? (i := 141) (by decide +kernel))) (fun _ h9 => h9) rfl hin rfl (by decide +kernel) rfl rfl (Nat.le_of_ble_eq_true rfl) dX12_init_45 (fun H locs hP hD hS => ?_)
  have hP : va_P D vwCl ((h, .inr (12, [.ref q1, .ref q2, .ref q3, .int 0, .int 0, .ref q4, .ref q5, .null, .null, .null, .int 0, .int 0, .int 0, .int 0, .int 0, .int 0, .int 0, .int 0, .int 0, .int 0, .int 0, .int 0, .int 0, .int 0, .int 0, .int 0, .int 0, .null, .null, .null, .int 0])) :: ((((([] ++ yZ c3.1 q1 1370) ++ yZ c3.1 q2 1370) ++ yZ c3.1 q3 170) ++ yZ c3.1 q4 48) ++ yZ c3.1 q5 820)) H := hP
  have hD : va_D A ((h, .inr (12, [.ref q1, .ref q2, .ref q3, .int 0, .int 0, .ref q4, .ref q5, .null, .null, .null, .int 0, .int 0, .int 0, .int 0, .int 0, .int 0, .int 0, .int 0, .int 0, .int 0, .int 0, .int 0, .int 0, .int 0, .int 0, .int 0, .int 0, .null, .null, .null, .int 0])) :: ((((([] ++ yZ c3.1 q1 1370) ++ yZ c3.1 q2 1370) ++ yZ c3.1 q3 170) ++ yZ c3.1 q4 48) ++ yZ c3.1 q5 820)) := hD
  refine lv_aload_n hx hb dX12_init_48 rfl (lv_at hl 0 rfl) ?_
  refine lv_sipush (v := 400) hx hb dX12_init_49 (by decide) ?_
  refine y_newi C hP hD hS hA 400 (by decide) (by decide) (Nat.le_of_ble_eq_true rfl) (Nat.le_of_ble_eq_true rfl) (Nat.le_of_ble_eq_true rfl) dX12_init_52 (fun q6 H hP hD hS => ?_)
  have hP : va_P D vwCl ((h, .inr (12, [.ref q1, .ref q2, .ref q3, .int 0, .int 0, .ref q4, .ref q5, .null, .null, .null, .int 0, .int 0, .int 0, .int 0, .int 0, .int 0, .int 0, .int 0, .int 0, .int 0, .int 0, .int 0, .int 0, .int 0, .int 0, .int 0, .int 0, .null, .null, .null, .int 0])) :: (((((([] ++ yZ c3.1 q1 1370) ++ yZ c3.1 q2 1370) ++ yZ c3.1 q3 170) ++ yZ c3.1 q4 48) ++ yZ c3.1 q5 820) ++ yZ c3.1 q6 400)) H := hP
  have hD : va_D A ((h, .inr (12, [.ref q1, .ref q2, .ref q3, .int 0, .int 0, .ref q4, .ref q5, .null, .null, .null, .int 0, .int 0, .int 0, .int 0, .int 0, .int 0, .int 0, .int 0, .int 0, .int 0, .int 0, .int 0, .int 0, .int 0, .int 0, .int 0, .int 0, .null, .null, .null, .int 0])) :: (((((([] ++ yZ c3.1 q1 1370) ++ yZ c3.1 q2 1370) ++ yZ c3.1 q3 170) ++ yZ c3.1 q4 48) ++ yZ c3.1 q5 820) ++ yZ c3.1 q6 400)) := hD
  refine va_putF (D := D) (ci := 12) (v := .ref q6) (ty := .array .int) (C := RX12) (T := TX12) (N := 31) hx hb hts inlX12 tyX12 tyX12_ok nmX12 hown hK hP hD hS 0 rfl rfl 7 (by decide) (hts (Cond.fieldLink RX12 25 "SevenUnsaidModel" "tape" "[I") (List.mem_of_getElem? (i := 142) (by decide +kernel))) (fun _ h9 => h9) rfl hin rfl (by decide +kernel) rfl rfl (Nat.le_of_ble_eq_true rfl) dX12_init_54 (fun H locs hP hD hS => ?_)
  have hP : va_P D vwCl ((h, .inr (12, [.ref q1, .ref q2, .ref q3, .int 0, .int 0, .ref q4, .ref q5, .ref q6, .null, .null, .int 0, .int 0, .int 0, .int 0, .int 0, .int 0, .int 0, .int 0, .int 0, .int 0, .int 0, .int 0, .int 0, .int 0, .int 0, .int 0, .int 0, .null, .null, .null, .int 0])) :: (((((([] ++ yZ c3.1 q1 1370) ++ yZ c3.1 q2 1370) ++ yZ c3.1 q3 170) ++ yZ c3.1 q4 48) ++ yZ c3.1 q5 820) ++ yZ c3.1 q6 400)) H := hP
  have hD : va_D A ((h, .inr (12, [.ref q1, .ref q2, .ref q3, .int 0, .int 0, .ref q4, .ref q5, .ref q6, .null, .null, .int 0, .int 0, .int 0, .int 0, .int 0, .int 0, .int 0, .int 0, .int 0, .int 0, .int 0, .int 0, .int 0, .int 0, .int 0, .int 0, .int 0, .null, .null, .null, .int 0])) :: (((((([] ++ yZ c3.1 q1 1370) ++ yZ c3.1 q2 1370) ++ yZ c3.1 q3 170) ++ yZ c3.1 q4 48) ++ yZ c3.1 q5 820) ++ yZ c3.1 q6 400)) := hD
  refine lv_aload_n hx hb dX12_init_57 rfl (lv_at hl 0 rfl) ?_
  refine lv_sipush (v := 420) hx hb dX12_init_58 (by decide) ?_
  refine y_newi C hP hD hS hA 420 (by decide) (by decide) (Nat.le_of_ble_eq_true rfl) (Nat.le_of_ble_eq_true rfl) (Nat.le_of_ble_eq_true rfl) dX12_init_61 (fun q7 H hP hD hS => ?_)
  have hP : va_P D vwCl ((h, .inr (12, [.ref q1, .ref q2, .ref q3, .int 0, .int 0, .ref q4, .ref q5, .ref q6, .null, .null, .int 0, .int 0, .int 0, .int 0, .int 0, .int 0, .int 0, .int 0, .int 0, .int 0, .int 0, .int 0, .int 0, .int 0, .int 0, .int 0, .int 0, .null, .null, .null, .int 0])) :: ((((((([] ++ yZ c3.1 q1 1370) ++ yZ c3.1 q2 1370) ++ yZ c3.1 q3 170) ++ yZ c3.1 q4 48) ++ yZ c3.1 q5 820) ++ yZ c3.1 q6 400) ++ yZ c3.1 q7 420)) H := hP
  have hD : va_D A ((h, .inr (12, [.ref q1, .ref q2, .ref q3, .int 0, .int 0, .ref q4, .ref q5, .ref q6, .null, .null, .int 0, .int 0, .int 0, .int 0, .int 0, .int 0, .int 0, .int 0, .int 0, .int 0, .int 0, .int 0, .int 0, .int 0, .int 0, .int 0, .int 0, .null, .null, .null, .int 0])) :: ((((((([] ++ yZ c3.1 q1 1370) ++ yZ c3.1 q2 1370) ++ yZ c3.1 q3 170) ++ yZ c3.1 q4 48) ++ yZ c3.1 q5 820) ++ yZ c3.1 q6 400) ++ yZ c3.1 q7 420)) := hD
  refine va_putF (D := D) (ci := 12) (v := .ref q7) (ty := .array .int) (C := RX12) (T := TX12) (N := 31) hx hb hts inlX12 tyX12 tyX12_ok nmX12 hown hK hP hD hS 0 rfl rfl 8 (by decide) (hts (Cond.fieldLink RX12 28 "SevenUnsaidModel" "pile" "[I") (List.mem_of_getElem? (i := 143) (by decide +kernel))) (fun _ h9 => h9) rfl hin rfl (by decide +kernel) rfl rfl (Nat.le_of_ble_eq_true rfl) dX12_init_63 (fun H locs hP hD hS => ?_)
  have hP : va_P D vwCl ((h, .inr (12, [.ref q1, .ref q2, .ref q3, .int 0, .int 0, .ref q4, .ref q5, .ref q6, .ref q7, .null, .int 0, .int 0, .int 0, .int 0, .int 0, .int 0, .int 0, .int 0, .int 0, .int 0, .int 0, .int 0, .int 0, .int 0, .int 0, .int 0, .int 0, .null, .null, .null, .int 0])) :: ((((((([] ++ yZ c3.1 q1 1370) ++ yZ c3.1 q2 1370) ++ yZ c3.1 q3 170) ++ yZ c3.1 q4 48) ++ yZ c3.1 q5 820) ++ yZ c3.1 q6 400) ++ yZ c3.1 q7 420)) H := hP
  have hD : va_D A ((h, .inr (12, [.ref q1, .ref q2, .ref q3, .int 0, .int 0, .ref q4, .ref q5, .ref q6, .ref q7, .null, .int 0, .int 0, .int 0, .int 0, .int 0, .int 0, .int 0, .int 0, .int 0, .int 0, .int 0, .int 0, .int 0, .int 0, .int 0, .int 0, .int 0, .null, .null, .null, .int 0])) :: ((((((([] ++ yZ c3.1 q1 1370) ++ yZ c3.1 q2 1370) ++ yZ c3.1 q3 170) ++ yZ c3.1 q4 48) ++ yZ c3.1 q5 820) ++ yZ c3.1 q6 400) ++ yZ c3.1 q7 420)) := hD
  refine lv_aload_n hx hb dX12_init_66 rfl (lv_at hl 0 rfl) ?_
  refine lv_bipush (v := 8) hx hb dX12_init_67 (by decide) ?_
  refine y_newi C hP hD hS hA 8 (by decide) (by decide) (Nat.le_of_ble_eq_true rfl) (Nat.le_of_ble_eq_true rfl) (Nat.le_of_ble_eq_true rfl) dX12_init_69 (fun q8 H hP hD hS => ?_)
  have hP : va_P D vwCl ((h, .inr (12, [.ref q1, .ref q2, .ref q3, .int 0, .int 0, .ref q4, .ref q5, .ref q6, .ref q7, .null, .int 0, .int 0, .int 0, .int 0, .int 0, .int 0, .int 0, .int 0, .int 0, .int 0, .int 0, .int 0, .int 0, .int 0, .int 0, .int 0, .int 0, .null, .null, .null, .int 0])) :: (((((((([] ++ yZ c3.1 q1 1370) ++ yZ c3.1 q2 1370) ++ yZ c3.1 q3 170) ++ yZ c3.1 q4 48) ++ yZ c3.1 q5 820) ++ yZ c3.1 q6 400) ++ yZ c3.1 q7 420) ++ yZ c3.1 q8 8)) H := hP
  have hD : va_D A ((h, .inr (12, [.ref q1, .ref q2, .ref q3, .int 0, .int 0, .ref q4, .ref q5, .ref q6, .ref q7, .null, .int 0, .int 0, .int 0, .int 0, .int 0, .int 0, .int 0, .int 0, .int 0, .int 0, .int 0, .int 0, .int 0, .int 0, .int 0, .int 0, .int 0, .null, .null, .null, .int 0])) :: (((((((([] ++ yZ c3.1 q1 1370) ++ yZ c3.1 q2 1370) ++ yZ c3.1 q3 170) ++ yZ c3.1 q4 48) ++ yZ c3.1 q5 820) ++ yZ c3.1 q6 400) ++ yZ c3.1 q7 420) ++ yZ c3.1 q8 8)) := hD
  refine va_putF (D := D) (ci := 12) (v := .ref q8) (ty := .array .int) (C := RX12) (T := TX12) (N := 31) hx hb hts inlX12 tyX12 tyX12_ok nmX12 hown hK hP hD hS 0 rfl rfl 9 (by decide) (hts (Cond.fieldLink RX12 31 "SevenUnsaidModel" "facts" "[I") (List.mem_of_getElem? (i := 144) (by decide +kernel))) (fun _ h9 => h9) rfl hin rfl (by decide +kernel) rfl rfl (Nat.le_of_ble_eq_true rfl) dX12_init_71 (fun H locs hP hD hS => ?_)
  have hP : va_P D vwCl ((h, .inr (12, [.ref q1, .ref q2, .ref q3, .int 0, .int 0, .ref q4, .ref q5, .ref q6, .ref q7, .ref q8, .int 0, .int 0, .int 0, .int 0, .int 0, .int 0, .int 0, .int 0, .int 0, .int 0, .int 0, .int 0, .int 0, .int 0, .int 0, .int 0, .int 0, .null, .null, .null, .int 0])) :: (((((((([] ++ yZ c3.1 q1 1370) ++ yZ c3.1 q2 1370) ++ yZ c3.1 q3 170) ++ yZ c3.1 q4 48) ++ yZ c3.1 q5 820) ++ yZ c3.1 q6 400) ++ yZ c3.1 q7 420) ++ yZ c3.1 q8 8)) H := hP
  have hD : va_D A ((h, .inr (12, [.ref q1, .ref q2, .ref q3, .int 0, .int 0, .ref q4, .ref q5, .ref q6, .ref q7, .ref q8, .int 0, .int 0, .int 0, .int 0, .int 0, .int 0, .int 0, .int 0, .int 0, .int 0, .int 0, .int 0, .int 0, .int 0, .int 0, .int 0, .int 0, .null, .null, .null, .int 0])) :: (((((((([] ++ yZ c3.1 q1 1370) ++ yZ c3.1 q2 1370) ++ yZ c3.1 q3 170) ++ yZ c3.1 q4 48) ++ yZ c3.1 q5 820) ++ yZ c3.1 q6 400) ++ yZ c3.1 q7 420) ++ yZ c3.1 q8 8)) := hD
  refine lv_aload_n hx hb dX12_init_74 rfl (lv_at hl 0 rfl) ?_
  refine lv_iconst (v := (-1)) hx hb dX12_init_75 (by decide) ?_
  refine va_put (D := D) (ci := 12) (v := .int (-1)) (ty := .int) (C := RX12) (T := TX12) (N := 31) hx hb hts inlX12 tyX12 tyX12_ok nmX12 hown hK hP hD hS 0 rfl rfl 21 (by decide) (hts (Cond.fieldLink RX12 34 "SevenUnsaidModel" "faultPlace" "I") (List.mem_of_getElem? (i := 145) (by decide +kernel))) (fun _ h9 => h9) rfl (by decide +kernel) rfl rfl (Nat.le_of_ble_eq_true rfl) dX12_init_76 (fun H locs hP hD hS => ?_)
  have hP : va_P D vwCl ((h, .inr (12, [.ref q1, .ref q2, .ref q3, .int 0, .int 0, .ref q4, .ref q5, .ref q6, .ref q7, .ref q8, .int 0, .int 0, .int 0, .int 0, .int 0, .int 0, .int 0, .int 0, .int 0, .int 0, .int 0, .int (-1), .int 0, .int 0, .int 0, .int 0, .int 0, .null, .null, .null, .int 0])) :: (((((((([] ++ yZ c3.1 q1 1370) ++ yZ c3.1 q2 1370) ++ yZ c3.1 q3 170) ++ yZ c3.1 q4 48) ++ yZ c3.1 q5 820) ++ yZ c3.1 q6 400) ++ yZ c3.1 q7 420) ++ yZ c3.1 q8 8)) H := hP
  have hD : va_D A ((h, .inr (12, [.ref q1, .ref q2, .ref q3, .int 0, .int 0, .ref q4, .ref q5, .ref q6, .ref q7, .ref q8, .int 0, .int 0, .int 0, .int 0, .int 0, .int 0, .int 0, .int 0, .int 0, .int 0, .int 0, .int (-1), .int 0, .int 0, .int 0, .int 0, .int 0, .null, .null, .null, .int 0])) :: (((((((([] ++ yZ c3.1 q1 1370) ++ yZ c3.1 q2 1370) ++ yZ c3.1 q3 170) ++ yZ c3.1 q4 48) ++ yZ c3.1 q5 820) ++ yZ c3.1 q6 400) ++ yZ c3.1 q7 420) ++ yZ c3.1 q8 8)) := hD
  refine lv_aload_n hx hb dX12_init_79 rfl (lv_at hl 0 rfl) ?_
  refine lv_bipush (v := 8) hx hb dX12_init_80 (by decide) ?_
  refine y_newi C hP hD hS hA 8 (by decide) (by decide) (Nat.le_of_ble_eq_true rfl) (Nat.le_of_ble_eq_true rfl) (Nat.le_of_ble_eq_true rfl) dX12_init_82 (fun q9 H hP hD hS => ?_)
  have hP : va_P D vwCl ((h, .inr (12, [.ref q1, .ref q2, .ref q3, .int 0, .int 0, .ref q4, .ref q5, .ref q6, .ref q7, .ref q8, .int 0, .int 0, .int 0, .int 0, .int 0, .int 0, .int 0, .int 0, .int 0, .int 0, .int 0, .int (-1), .int 0, .int 0, .int 0, .int 0, .int 0, .null, .null, .null, .int 0])) :: ((((((((([] ++ yZ c3.1 q1 1370) ++ yZ c3.1 q2 1370) ++ yZ c3.1 q3 170) ++ yZ c3.1 q4 48) ++ yZ c3.1 q5 820) ++ yZ c3.1 q6 400) ++ yZ c3.1 q7 420) ++ yZ c3.1 q8 8) ++ yZ c3.1 q9 8)) H := hP
  have hD : va_D A ((h, .inr (12, [.ref q1, .ref q2, .ref q3, .int 0, .int 0, .ref q4, .ref q5, .ref q6, .ref q7, .ref q8, .int 0, .int 0, .int 0, .int 0, .int 0, .int 0, .int 0, .int 0, .int 0, .int 0, .int 0, .int (-1), .int 0, .int 0, .int 0, .int 0, .int 0, .null, .null, .null, .int 0])) :: ((((((((([] ++ yZ c3.1 q1 1370) ++ yZ c3.1 q2 1370) ++ yZ c3.1 q3 170) ++ yZ c3.1 q4 48) ++ yZ c3.1 q5 820) ++ yZ c3.1 q6 400) ++ yZ c3.1 q7 420) ++ yZ c3.1 q8 8) ++ yZ c3.1 q9 8)) := hD
  refine va_putF (D := D) (ci := 12) (v := .ref q9) (ty := .array .int) (C := RX12) (T := TX12) (N := 31) hx hb hts inlX12 tyX12 tyX12_ok nmX12 hown hK hP hD hS 0 rfl rfl 27 (by decide) (hts (Cond.fieldLink RX12 38 "SevenUnsaidModel" "wordsTo" "[I") (List.mem_of_getElem? (i := 146) (by decide +kernel))) (fun _ h9 => h9) rfl hin rfl (by decide +kernel) rfl rfl (Nat.le_of_ble_eq_true rfl) dX12_init_84 (fun H locs hP hD hS => ?_)
  have hP : va_P D vwCl ((h, .inr (12, [.ref q1, .ref q2, .ref q3, .int 0, .int 0, .ref q4, .ref q5, .ref q6, .ref q7, .ref q8, .int 0, .int 0, .int 0, .int 0, .int 0, .int 0, .int 0, .int 0, .int 0, .int 0, .int 0, .int (-1), .int 0, .int 0, .int 0, .int 0, .int 0, .ref q9, .null, .null, .int 0])) :: ((((((((([] ++ yZ c3.1 q1 1370) ++ yZ c3.1 q2 1370) ++ yZ c3.1 q3 170) ++ yZ c3.1 q4 48) ++ yZ c3.1 q5 820) ++ yZ c3.1 q6 400) ++ yZ c3.1 q7 420) ++ yZ c3.1 q8 8) ++ yZ c3.1 q9 8)) H := hP
  have hD : va_D A ((h, .inr (12, [.ref q1, .ref q2, .ref q3, .int 0, .int 0, .ref q4, .ref q5, .ref q6, .ref q7, .ref q8, .int 0, .int 0, .int 0, .int 0, .int 0, .int 0, .int 0, .int 0, .int 0, .int 0, .int 0, .int (-1), .int 0, .int 0, .int 0, .int 0, .int 0, .ref q9, .null, .null, .int 0])) :: ((((((((([] ++ yZ c3.1 q1 1370) ++ yZ c3.1 q2 1370) ++ yZ c3.1 q3 170) ++ yZ c3.1 q4 48) ++ yZ c3.1 q5 820) ++ yZ c3.1 q6 400) ++ yZ c3.1 q7 420) ++ yZ c3.1 q8 8) ++ yZ c3.1 q9 8)) := hD
  refine lv_aload_n hx hb dX12_init_87 rfl (lv_at hl 0 rfl) ?_
  refine lv_bipush (v := 8) hx hb dX12_init_88 (by decide) ?_
  refine y_newi C hP hD hS hA 8 (by decide) (by decide) (Nat.le_of_ble_eq_true rfl) (Nat.le_of_ble_eq_true rfl) (Nat.le_of_ble_eq_true rfl) dX12_init_90 (fun q10 H hP hD hS => ?_)
  have hP : va_P D vwCl ((h, .inr (12, [.ref q1, .ref q2, .ref q3, .int 0, .int 0, .ref q4, .ref q5, .ref q6, .ref q7, .ref q8, .int 0, .int 0, .int 0, .int 0, .int 0, .int 0, .int 0, .int 0, .int 0, .int 0, .int 0, .int (-1), .int 0, .int 0, .int 0, .int 0, .int 0, .ref q9, .null, .null, .int 0])) :: (((((((((([] ++ yZ c3.1 q1 1370) ++ yZ c3.1 q2 1370) ++ yZ c3.1 q3 170) ++ yZ c3.1 q4 48) ++ yZ c3.1 q5 820) ++ yZ c3.1 q6 400) ++ yZ c3.1 q7 420) ++ yZ c3.1 q8 8) ++ yZ c3.1 q9 8) ++ yZ c3.1 q10 8)) H := hP
  have hD : va_D A ((h, .inr (12, [.ref q1, .ref q2, .ref q3, .int 0, .int 0, .ref q4, .ref q5, .ref q6, .ref q7, .ref q8, .int 0, .int 0, .int 0, .int 0, .int 0, .int 0, .int 0, .int 0, .int 0, .int 0, .int 0, .int (-1), .int 0, .int 0, .int 0, .int 0, .int 0, .ref q9, .null, .null, .int 0])) :: (((((((((([] ++ yZ c3.1 q1 1370) ++ yZ c3.1 q2 1370) ++ yZ c3.1 q3 170) ++ yZ c3.1 q4 48) ++ yZ c3.1 q5 820) ++ yZ c3.1 q6 400) ++ yZ c3.1 q7 420) ++ yZ c3.1 q8 8) ++ yZ c3.1 q9 8) ++ yZ c3.1 q10 8)) := hD
  refine va_putF (D := D) (ci := 12) (v := .ref q10) (ty := .array .int) (C := RX12) (T := TX12) (N := 31) hx hb hts inlX12 tyX12 tyX12_ok nmX12 hown hK hP hD hS 0 rfl rfl 28 (by decide) (hts (Cond.fieldLink RX12 41 "SevenUnsaidModel" "seats" "[I") (List.mem_of_getElem? (i := 147) (by decide +kernel))) (fun _ h9 => h9) rfl hin rfl (by decide +kernel) rfl rfl (Nat.le_of_ble_eq_true rfl) dX12_init_92 (fun H locs hP hD hS => ?_)
  have hP : va_P D vwCl ((h, .inr (12, [.ref q1, .ref q2, .ref q3, .int 0, .int 0, .ref q4, .ref q5, .ref q6, .ref q7, .ref q8, .int 0, .int 0, .int 0, .int 0, .int 0, .int 0, .int 0, .int 0, .int 0, .int 0, .int 0, .int (-1), .int 0, .int 0, .int 0, .int 0, .int 0, .ref q9, .ref q10, .null, .int 0])) :: (((((((((([] ++ yZ c3.1 q1 1370) ++ yZ c3.1 q2 1370) ++ yZ c3.1 q3 170) ++ yZ c3.1 q4 48) ++ yZ c3.1 q5 820) ++ yZ c3.1 q6 400) ++ yZ c3.1 q7 420) ++ yZ c3.1 q8 8) ++ yZ c3.1 q9 8) ++ yZ c3.1 q10 8)) H := hP
  have hD : va_D A ((h, .inr (12, [.ref q1, .ref q2, .ref q3, .int 0, .int 0, .ref q4, .ref q5, .ref q6, .ref q7, .ref q8, .int 0, .int 0, .int 0, .int 0, .int 0, .int 0, .int 0, .int 0, .int 0, .int 0, .int 0, .int (-1), .int 0, .int 0, .int 0, .int 0, .int 0, .ref q9, .ref q10, .null, .int 0])) :: (((((((((([] ++ yZ c3.1 q1 1370) ++ yZ c3.1 q2 1370) ++ yZ c3.1 q3 170) ++ yZ c3.1 q4 48) ++ yZ c3.1 q5 820) ++ yZ c3.1 q6 400) ++ yZ c3.1 q7 420) ++ yZ c3.1 q8 8) ++ yZ c3.1 q9 8) ++ yZ c3.1 q10 8)) := hD
  refine lv_aload_n hx hb dX12_init_95 rfl (lv_at hl 0 rfl) ?_
  refine lv_bipush (v := 8) hx hb dX12_init_96 (by decide) ?_
  refine y_newi C hP hD hS hA 8 (by decide) (by decide) (Nat.le_of_ble_eq_true rfl) (Nat.le_of_ble_eq_true rfl) (Nat.le_of_ble_eq_true rfl) dX12_init_98 (fun q11 H hP hD hS => ?_)
  have hP : va_P D vwCl ((h, .inr (12, [.ref q1, .ref q2, .ref q3, .int 0, .int 0, .ref q4, .ref q5, .ref q6, .ref q7, .ref q8, .int 0, .int 0, .int 0, .int 0, .int 0, .int 0, .int 0, .int 0, .int 0, .int 0, .int 0, .int (-1), .int 0, .int 0, .int 0, .int 0, .int 0, .ref q9, .ref q10, .null, .int 0])) :: ((((((((((([] ++ yZ c3.1 q1 1370) ++ yZ c3.1 q2 1370) ++ yZ c3.1 q3 170) ++ yZ c3.1 q4 48) ++ yZ c3.1 q5 820) ++ yZ c3.1 q6 400) ++ yZ c3.1 q7 420) ++ yZ c3.1 q8 8) ++ yZ c3.1 q9 8) ++ yZ c3.1 q10 8) ++ yZ c3.1 q11 8)) H := hP
  have hD : va_D A ((h, .inr (12, [.ref q1, .ref q2, .ref q3, .int 0, .int 0, .ref q4, .ref q5, .ref q6, .ref q7, .ref q8, .int 0, .int 0, .int 0, .int 0, .int 0, .int 0, .int 0, .int 0, .int 0, .int 0, .int 0, .int (-1), .int 0, .int 0, .int 0, .int 0, .int 0, .ref q9, .ref q10, .null, .int 0])) :: ((((((((((([] ++ yZ c3.1 q1 1370) ++ yZ c3.1 q2 1370) ++ yZ c3.1 q3 170) ++ yZ c3.1 q4 48) ++ yZ c3.1 q5 820) ++ yZ c3.1 q6 400) ++ yZ c3.1 q7 420) ++ yZ c3.1 q8 8) ++ yZ c3.1 q9 8) ++ yZ c3.1 q10 8) ++ yZ c3.1 q11 8)) := hD
  refine va_putF (D := D) (ci := 12) (v := .ref q11) (ty := .array .int) (C := RX12) (T := TX12) (N := 31) hx hb hts inlX12 tyX12 tyX12_ok nmX12 hown hK hP hD hS 0 rfl rfl 29 (by decide) (hts (Cond.fieldLink RX12 44 "SevenUnsaidModel" "bestSeats" "[I") (List.mem_of_getElem? (i := 148) (by decide +kernel))) (fun _ h9 => h9) rfl hin rfl (by decide +kernel) rfl rfl (Nat.le_of_ble_eq_true rfl) dX12_init_100 (fun H locs hP hD hS => ?_)
  have hP : va_P D vwCl ((h, .inr (12, [.ref q1, .ref q2, .ref q3, .int 0, .int 0, .ref q4, .ref q5, .ref q6, .ref q7, .ref q8, .int 0, .int 0, .int 0, .int 0, .int 0, .int 0, .int 0, .int 0, .int 0, .int 0, .int 0, .int (-1), .int 0, .int 0, .int 0, .int 0, .int 0, .ref q9, .ref q10, .ref q11, .int 0])) :: ((((((((((([] ++ yZ c3.1 q1 1370) ++ yZ c3.1 q2 1370) ++ yZ c3.1 q3 170) ++ yZ c3.1 q4 48) ++ yZ c3.1 q5 820) ++ yZ c3.1 q6 400) ++ yZ c3.1 q7 420) ++ yZ c3.1 q8 8) ++ yZ c3.1 q9 8) ++ yZ c3.1 q10 8) ++ yZ c3.1 q11 8)) H := hP
  have hD : va_D A ((h, .inr (12, [.ref q1, .ref q2, .ref q3, .int 0, .int 0, .ref q4, .ref q5, .ref q6, .ref q7, .ref q8, .int 0, .int 0, .int 0, .int 0, .int 0, .int 0, .int 0, .int 0, .int 0, .int 0, .int 0, .int (-1), .int 0, .int 0, .int 0, .int 0, .int 0, .ref q9, .ref q10, .ref q11, .int 0])) :: ((((((((((([] ++ yZ c3.1 q1 1370) ++ yZ c3.1 q2 1370) ++ yZ c3.1 q3 170) ++ yZ c3.1 q4 48) ++ yZ c3.1 q5 820) ++ yZ c3.1 q6 400) ++ yZ c3.1 q7 420) ++ yZ c3.1 q8 8) ++ yZ c3.1 q9 8) ++ yZ c3.1 q10 8) ++ yZ c3.1 q11 8)) := hD
  refine lv_aload_n hx hb dX12_init_103 rfl (lv_at hl 0 rfl) ?_
  refine va_get (D := D) (ci := 12) (v := .ref q1) (C := RX12) (T := TX12) (N := 31) hx hb hts inlX12 hown hK hP 0 rfl rfl 0 (by decide) (hts (Cond.fieldLink RX12 7 "SevenUnsaidModel" "w" "[I") (List.mem_of_getElem? (i := 137) (by decide +kernel))) (fun _ h9 => h9) rfl dX12_init_104 ?_
  refine lv_iconst (v := 0) hx hb dX12_init_107 (by decide) ?_
  refine lv_iconst (v := 1) hx hb dX12_init_108 (by decide) ?_
  refine va_iast hx hb hK hP hD hS 1 0 rfl rfl (vp_in_iff.mpr (by decide)) dX12_init_109 (fun H locs hP hD hS => ?_)
  have hP : va_P D vwCl ((h, .inr (12, [.ref q1, .ref q2, .ref q3, .int 0, .int 0, .ref q4, .ref q5, .ref q6, .ref q7, .ref q8, .int 0, .int 0, .int 0, .int 0, .int 0, .int 0, .int 0, .int 0, .int 0, .int 0, .int 0, .int (-1), .int 0, .int 0, .int 0, .int 0, .int 0, .ref q9, .ref q10, .ref q11, .int 0])) :: ((((((((((([] ++ [(q1, .inl (c3.1, 1370, .inl (upd (fun _ => 0) 0 1)))]) ++ yZ c3.1 q2 1370) ++ yZ c3.1 q3 170) ++ yZ c3.1 q4 48) ++ yZ c3.1 q5 820) ++ yZ c3.1 q6 400) ++ yZ c3.1 q7 420) ++ yZ c3.1 q8 8) ++ yZ c3.1 q9 8) ++ yZ c3.1 q10 8) ++ yZ c3.1 q11 8)) H := hP
  have hD : va_D A ((h, .inr (12, [.ref q1, .ref q2, .ref q3, .int 0, .int 0, .ref q4, .ref q5, .ref q6, .ref q7, .ref q8, .int 0, .int 0, .int 0, .int 0, .int 0, .int 0, .int 0, .int 0, .int 0, .int 0, .int 0, .int (-1), .int 0, .int 0, .int 0, .int 0, .int 0, .ref q9, .ref q10, .ref q11, .int 0])) :: ((((((((((([] ++ [(q1, .inl (c3.1, 1370, .inl (upd (fun _ => 0) 0 1)))]) ++ yZ c3.1 q2 1370) ++ yZ c3.1 q3 170) ++ yZ c3.1 q4 48) ++ yZ c3.1 q5 820) ++ yZ c3.1 q6 400) ++ yZ c3.1 q7 420) ++ yZ c3.1 q8 8) ++ yZ c3.1 q9 8) ++ yZ c3.1 q10 8) ++ yZ c3.1 q11 8)) := hD
  refine lv_aload_n hx hb dX12_init_110 rfl (lv_at hl 0 rfl) ?_
  refine va_get (D := D) (ci := 12) (v := .ref q1) (C := RX12) (T := TX12) (N := 31) hx hb hts inlX12 hown hK hP 0 rfl rfl 0 (by decide) (hts (Cond.fieldLink RX12 7 "SevenUnsaidModel" "w" "[I") (List.mem_of_getElem? (i := 137) (by decide +kernel))) (fun _ h9 => h9) rfl dX12_init_111 ?_
  refine lv_iconst (v := 2) hx hb dX12_init_114 (by decide) ?_
  refine lv_iconst (v := 1) hx hb dX12_init_115 (by decide) ?_
  refine va_iast hx hb hK hP hD hS 1 0 rfl rfl (vp_in_iff.mpr (by decide)) dX12_init_116 (fun H locs hP hD hS => ?_)
  have hP : va_P D vwCl ((h, .inr (12, [.ref q1, .ref q2, .ref q3, .int 0, .int 0, .ref q4, .ref q5, .ref q6, .ref q7, .ref q8, .int 0, .int 0, .int 0, .int 0, .int 0, .int 0, .int 0, .int 0, .int 0, .int 0, .int 0, .int (-1), .int 0, .int 0, .int 0, .int 0, .int 0, .ref q9, .ref q10, .ref q11, .int 0])) :: ((((((((((([] ++ [(q1, .inl (c3.1, 1370, .inl (upd (upd (fun _ => 0) 0 1) 2 1)))]) ++ yZ c3.1 q2 1370) ++ yZ c3.1 q3 170) ++ yZ c3.1 q4 48) ++ yZ c3.1 q5 820) ++ yZ c3.1 q6 400) ++ yZ c3.1 q7 420) ++ yZ c3.1 q8 8) ++ yZ c3.1 q9 8) ++ yZ c3.1 q10 8) ++ yZ c3.1 q11 8)) H := hP
  have hD : va_D A ((h, .inr (12, [.ref q1, .ref q2, .ref q3, .int 0, .int 0, .ref q4, .ref q5, .ref q6, .ref q7, .ref q8, .int 0, .int 0, .int 0, .int 0, .int 0, .int 0, .int 0, .int 0, .int 0, .int 0, .int 0, .int (-1), .int 0, .int 0, .int 0, .int 0, .int 0, .ref q9, .ref q10, .ref q11, .int 0])) :: ((((((((((([] ++ [(q1, .inl (c3.1, 1370, .inl (upd (upd (fun _ => 0) 0 1) 2 1)))]) ++ yZ c3.1 q2 1370) ++ yZ c3.1 q3 170) ++ yZ c3.1 q4 48) ++ yZ c3.1 q5 820) ++ yZ c3.1 q6 400) ++ yZ c3.1 q7 420) ++ yZ c3.1 q8 8) ++ yZ c3.1 q9 8) ++ yZ c3.1 q10 8) ++ yZ c3.1 q11 8)) := hD
  refine lv_aload_n hx hb dX12_init_117 rfl (lv_at hl 0 rfl) ?_
  refine va_get (D := D) (ci := 12) (v := .ref q1) (C := RX12) (T := TX12) (N := 31) hx hb hts inlX12 hown hK hP 0 rfl rfl 0 (by decide) (hts (Cond.fieldLink RX12 7 "SevenUnsaidModel" "w" "[I") (List.mem_of_getElem? (i := 137) (by decide +kernel))) (fun _ h9 => h9) rfl dX12_init_118 ?_
  refine lv_bipush (v := 8) hx hb dX12_init_121 (by decide) ?_
  refine lv_iconst (v := (-1)) hx hb dX12_init_123 (by decide) ?_
  refine va_iast hx hb hK hP hD hS 1 0 rfl rfl (vp_in_iff.mpr (by decide)) dX12_init_124 (fun H locs hP hD hS => ?_)
  have hP : va_P D vwCl ((h, .inr (12, [.ref q1, .ref q2, .ref q3, .int 0, .int 0, .ref q4, .ref q5, .ref q6, .ref q7, .ref q8, .int 0, .int 0, .int 0, .int 0, .int 0, .int 0, .int 0, .int 0, .int 0, .int 0, .int 0, .int (-1), .int 0, .int 0, .int 0, .int 0, .int 0, .ref q9, .ref q10, .ref q11, .int 0])) :: ((((((((((([] ++ [(q1, .inl (c3.1, 1370, .inl (upd (upd (upd (fun _ => 0) 0 1) 2 1) 8 (-1))))]) ++ yZ c3.1 q2 1370) ++ yZ c3.1 q3 170) ++ yZ c3.1 q4 48) ++ yZ c3.1 q5 820) ++ yZ c3.1 q6 400) ++ yZ c3.1 q7 420) ++ yZ c3.1 q8 8) ++ yZ c3.1 q9 8) ++ yZ c3.1 q10 8) ++ yZ c3.1 q11 8)) H := hP
  have hD : va_D A ((h, .inr (12, [.ref q1, .ref q2, .ref q3, .int 0, .int 0, .ref q4, .ref q5, .ref q6, .ref q7, .ref q8, .int 0, .int 0, .int 0, .int 0, .int 0, .int 0, .int 0, .int 0, .int 0, .int 0, .int 0, .int (-1), .int 0, .int 0, .int 0, .int 0, .int 0, .ref q9, .ref q10, .ref q11, .int 0])) :: ((((((((((([] ++ [(q1, .inl (c3.1, 1370, .inl (upd (upd (upd (fun _ => 0) 0 1) 2 1) 8 (-1))))]) ++ yZ c3.1 q2 1370) ++ yZ c3.1 q3 170) ++ yZ c3.1 q4 48) ++ yZ c3.1 q5 820) ++ yZ c3.1 q6 400) ++ yZ c3.1 q7 420) ++ yZ c3.1 q8 8) ++ yZ c3.1 q9 8) ++ yZ c3.1 q10 8) ++ yZ c3.1 q11 8)) := hD
  exact kk (q1, q2, q3, q4, q5, q6, q7, q8, q9, q10, q11) _ _ _ _ dX12_init_125 hP hD hS
