set_option maxRecDepth 100000 in
theorem iX8_init_X8 : ∀ w ∈ wsX80, w ∈ wsX8_init := fun w h => (goodIn_r (big := wsX8_init) wsX80 [19, 20, 21, 22, 23, 24, 25, 26, 27, 28, 29, 30, 31, 32, 33, 34, 35, 36, 37, 38, 39, 40, 41, 42, 43, 44, 45, 46, 47, 48, 49] rfl (by decide +kernel) w h).1
set_option maxRecDepth 100000 in
set_option maxHeartbeats 4000000 in
theorem r_init (l : Launch) (D : va_G) (cI cL cB cZ cT : ClassId) (sz : Nat) (m0 : Nat) : kM (S := Nat × Nat × Nat × Nat × Nat × Nat × Nat × Nat × Nat × Nat) l yX8_init wsX8_init ({ frames := 1, cells := 10, slots := 4592, locals := 20 }) D (kT cI cL cB cZ cT) [.ref m0] [(m0, .inr (8, [.null, .int 0, .long 0, .int 0, .long 0, .int 0, .int 0, .int 0, .int 0, .int 0, .int 0, .long 0, .int 0, .int 0, .null, .null, .null, .null, .int 0, .int 0, .int 0, .long 0, .null, .int 0, .int 0, .int 0, .null, .null, .null, .null, .int 0]))] sz eV (fun _ _ => True) (fun u => [(m0, .inr (8, [.ref u.1, .int 0, .long 0, .int 0, .long 0, .int 0, .int 0, .int 0, .int 0, .int 0, .int 0, .long 0, .int 0, .int 0, .ref u.2.1, .ref u.2.2.1, .ref u.2.2.2.1, .ref u.2.2.2.2.1, .int 0, .int 0, .int 0, .long 0, .ref u.2.2.2.2.2.1, .int 0, .int 0, .int 0, .ref u.2.2.2.2.2.2.1, .ref u.2.2.2.2.2.2.2.1, .ref u.2.2.2.2.2.2.2.2.1, .ref u.2.2.2.2.2.2.2.2.2, .int 0])), (u.1, .inl (cI, 512, .inl (fun _ => 0))), (u.2.1, .inl (cL, 1200, .inr (.inl (fun _ => 0)))), (u.2.2.1, .inl (cI, 4, .inl (fun _ => 0))), (u.2.2.2.1, .inl (cI, 4, .inl (fun _ => 0))), (u.2.2.2.2.1, .inl (cL, 256, .inr (.inl (fun _ => 0)))), (u.2.2.2.2.2.1, .inl (cB, 2000, .inl (fun _ => 0))), (u.2.2.2.2.2.2.1, .inl (cI, 200, .inl (fun _ => 0))), (u.2.2.2.2.2.2.2.1, .inl (cL, 200, .inr (.inl (fun _ => 0)))), (u.2.2.2.2.2.2.2.2.1, .inl (cZ, 200, .inl (fun _ => 0))), (u.2.2.2.2.2.2.2.2.2, .inl (cB, 16, .inl (fun _ => 0)))]) 10 4592 := by
  refine kStart (cc := cX8_init) (maxL := 1) (ret := none) (own := RX8) (by decide) rfl rfl (Nat.le_of_ble_eq_true rfl) ?_
  intro p e s m args below meth c A ls hx hb hr hml hown hts hlocks hnm hsz hA hG hP hD hS hl
  have hK := hG.1
  have hl : lv_has ls 1 [(0, .ref m0)] := hl
  refine lv_aload_n hx hb dX8_init_0 rfl (lv_at hl 0 rfl) ?_
  refine W.objInit hx hb hown (hts (.methodLink RX8 1 objectInit) (List.mem_of_getElem? (i := 1) rfl)) (hts (.instanceMethod objectInit) (List.mem_of_getElem? (i := 2) rfl)) (hts (.code objectInit ⟨#[0xb1]⟩ 1 none) (List.mem_of_getElem? (i := 3) rfl)) rfl (by rw [hml]; exact hl.1) rfl dX8_init_1 (Nat.le_of_ble_eq_true rfl) (Nat.le_of_ble_eq_true rfl) ?_
  refine W.eq (g2 := F0 m 4 ls []) rfl ?_
  refine lv_aload_n hx hb dX8_init_4 rfl (lv_at hl 0 rfl) ?_
  refine lv_sipush (v := 512) hx hb dX8_init_5 (by decide) ?_
  refine kNew_i (N := 512) hx hb (hts (.arrayClass .int) (List.mem_of_getElem? (i := 4) rfl)) hK hP hD hS hA (by decide) (by decide) (by decide) (Nat.le_of_ble_eq_true rfl) (Nat.le_of_ble_eq_true rfl) dX8_init_8 (fun q_1 H hP hD hS => ?_)
  have hP : va_P D vwCl [(m0, .inr (8, [.null, .int 0, .long 0, .int 0, .long 0, .int 0, .int 0, .int 0, .int 0, .int 0, .int 0, .long 0, .int 0, .int 0, .null, .null, .null, .null, .int 0, .int 0, .int 0, .long 0, .null, .int 0, .int 0, .int 0, .null, .null, .null, .null, .int 0])), (q_1, .inl (cI, 512, .inl (fun _ => 0)))] H := hP
  have hD : va_D A [(m0, .inr (8, [.null, .int 0, .long 0, .int 0, .long 0, .int 0, .int 0, .int 0, .int 0, .int 0, .int 0, .long 0, .int 0, .int 0, .null, .null, .null, .null, .int 0, .int 0, .int 0, .long 0, .null, .int 0, .int 0, .int 0, .null, .null, .null, .null, .int 0])), (q_1, .inl (cI, 512, .inl (fun _ => 0)))] := hD
  refine W.widen (k := 1) (n := 512) (by omega) (by omega) ?_
  refine va_putF (D := D) (ci := 8) (v := .ref q_1) (ty := (.array .int)) (C := RX8) (T := TX8) (N := 31) hx hb hts iX8_init_X8 tyX8 tyX8_ok nmX8 hown hK hP hD hS 0 rfl rfl 0 (by decide) (hts (.fieldLink RX8 7 "TapeCalculatorModel" "half" "[I") (List.mem_of_getElem? (i := 5) rfl)) (fun _ h9 => h9) rfl hnm rfl (by decide +kernel) rfl rfl (Nat.le_of_ble_eq_true rfl) dX8_init_10 (fun H locs hP hD hS => ?_)
  have hP : va_P D vwCl [(m0, .inr (8, [.ref q_1, .int 0, .long 0, .int 0, .long 0, .int 0, .int 0, .int 0, .int 0, .int 0, .int 0, .long 0, .int 0, .int 0, .null, .null, .null, .null, .int 0, .int 0, .int 0, .long 0, .null, .int 0, .int 0, .int 0, .null, .null, .null, .null, .int 0])), (q_1, .inl (cI, 512, .inl (fun _ => 0)))] H := hP
  have hD : va_D A [(m0, .inr (8, [.ref q_1, .int 0, .long 0, .int 0, .long 0, .int 0, .int 0, .int 0, .int 0, .int 0, .int 0, .long 0, .int 0, .int 0, .null, .null, .null, .null, .int 0, .int 0, .int 0, .long 0, .null, .int 0, .int 0, .int 0, .null, .null, .null, .null, .int 0])), (q_1, .inl (cI, 512, .inl (fun _ => 0)))] := hD
  refine lv_aload_n hx hb dX8_init_13 rfl (lv_at hl 0 rfl) ?_
  refine lv_sipush (v := 1200) hx hb dX8_init_14 (by decide) ?_
  refine kNew_l (N := 1200) hx hb (hts (.arrayClass .long) (List.mem_of_getElem? (i := 6) rfl)) hK hP hD hS hA (by decide) (by decide) (by decide) (Nat.le_of_ble_eq_true rfl) (Nat.le_of_ble_eq_true rfl) dX8_init_17 (fun q_2 H hP hD hS => ?_)
  have hP : va_P D vwCl [(m0, .inr (8, [.ref q_1, .int 0, .long 0, .int 0, .long 0, .int 0, .int 0, .int 0, .int 0, .int 0, .int 0, .long 0, .int 0, .int 0, .null, .null, .null, .null, .int 0, .int 0, .int 0, .long 0, .null, .int 0, .int 0, .int 0, .null, .null, .null, .null, .int 0])), (q_1, .inl (cI, 512, .inl (fun _ => 0))), (q_2, .inl (cL, 1200, .inr (.inl (fun _ => 0))))] H := hP
  have hD : va_D A [(m0, .inr (8, [.ref q_1, .int 0, .long 0, .int 0, .long 0, .int 0, .int 0, .int 0, .int 0, .int 0, .int 0, .long 0, .int 0, .int 0, .null, .null, .null, .null, .int 0, .int 0, .int 0, .long 0, .null, .int 0, .int 0, .int 0, .null, .null, .null, .null, .int 0])), (q_1, .inl (cI, 512, .inl (fun _ => 0))), (q_2, .inl (cL, 1200, .inr (.inl (fun _ => 0))))] := hD
  refine W.widen (k := 2) (n := 1712) (by omega) (by omega) ?_
  refine va_putF (D := D) (ci := 8) (v := .ref q_2) (ty := (.array .long)) (C := RX8) (T := TX8) (N := 31) hx hb hts iX8_init_X8 tyX8 tyX8_ok nmX8 hown hK hP hD hS 0 rfl rfl 14 (by decide) (hts (.fieldLink RX8 13 "TapeCalculatorModel" "item" "[J") (List.mem_of_getElem? (i := 7) rfl)) (fun _ h9 => h9) rfl hnm rfl (by decide +kernel) rfl rfl (Nat.le_of_ble_eq_true rfl) dX8_init_19 (fun H locs hP hD hS => ?_)
  have hP : va_P D vwCl [(m0, .inr (8, [.ref q_1, .int 0, .long 0, .int 0, .long 0, .int 0, .int 0, .int 0, .int 0, .int 0, .int 0, .long 0, .int 0, .int 0, .ref q_2, .null, .null, .null, .int 0, .int 0, .int 0, .long 0, .null, .int 0, .int 0, .int 0, .null, .null, .null, .null, .int 0])), (q_1, .inl (cI, 512, .inl (fun _ => 0))), (q_2, .inl (cL, 1200, .inr (.inl (fun _ => 0))))] H := hP
  have hD : va_D A [(m0, .inr (8, [.ref q_1, .int 0, .long 0, .int 0, .long 0, .int 0, .int 0, .int 0, .int 0, .int 0, .int 0, .long 0, .int 0, .int 0, .ref q_2, .null, .null, .null, .int 0, .int 0, .int 0, .long 0, .null, .int 0, .int 0, .int 0, .null, .null, .null, .null, .int 0])), (q_1, .inl (cI, 512, .inl (fun _ => 0))), (q_2, .inl (cL, 1200, .inr (.inl (fun _ => 0))))] := hD
  refine lv_aload_n hx hb dX8_init_22 rfl (lv_at hl 0 rfl) ?_
  refine lv_iconst (v := 4) hx hb dX8_init_23 (by decide) ?_
  refine kNew_i (N := 4) hx hb (hts (.arrayClass .int) (List.mem_of_getElem? (i := 4) rfl)) hK hP hD hS hA (by decide) (by decide) (by decide) (Nat.le_of_ble_eq_true rfl) (Nat.le_of_ble_eq_true rfl) dX8_init_24 (fun q_3 H hP hD hS => ?_)
  have hP : va_P D vwCl [(m0, .inr (8, [.ref q_1, .int 0, .long 0, .int 0, .long 0, .int 0, .int 0, .int 0, .int 0, .int 0, .int 0, .long 0, .int 0, .int 0, .ref q_2, .null, .null, .null, .int 0, .int 0, .int 0, .long 0, .null, .int 0, .int 0, .int 0, .null, .null, .null, .null, .int 0])), (q_1, .inl (cI, 512, .inl (fun _ => 0))), (q_2, .inl (cL, 1200, .inr (.inl (fun _ => 0)))), (q_3, .inl (cI, 4, .inl (fun _ => 0)))] H := hP
  have hD : va_D A [(m0, .inr (8, [.ref q_1, .int 0, .long 0, .int 0, .long 0, .int 0, .int 0, .int 0, .int 0, .int 0, .int 0, .long 0, .int 0, .int 0, .ref q_2, .null, .null, .null, .int 0, .int 0, .int 0, .long 0, .null, .int 0, .int 0, .int 0, .null, .null, .null, .null, .int 0])), (q_1, .inl (cI, 512, .inl (fun _ => 0))), (q_2, .inl (cL, 1200, .inr (.inl (fun _ => 0)))), (q_3, .inl (cI, 4, .inl (fun _ => 0)))] := hD
  refine W.widen (k := 3) (n := 1716) (by omega) (by omega) ?_
  refine va_putF (D := D) (ci := 8) (v := .ref q_3) (ty := (.array .int)) (C := RX8) (T := TX8) (N := 31) hx hb hts iX8_init_X8 tyX8 tyX8_ok nmX8 hown hK hP hD hS 0 rfl rfl 15 (by decide) (hts (.fieldLink RX8 17 "TapeCalculatorModel" "items" "[I") (List.mem_of_getElem? (i := 8) rfl)) (fun _ h9 => h9) rfl hnm rfl (by decide +kernel) rfl rfl (Nat.le_of_ble_eq_true rfl) dX8_init_26 (fun H locs hP hD hS => ?_)
  have hP : va_P D vwCl [(m0, .inr (8, [.ref q_1, .int 0, .long 0, .int 0, .long 0, .int 0, .int 0, .int 0, .int 0, .int 0, .int 0, .long 0, .int 0, .int 0, .ref q_2, .ref q_3, .null, .null, .int 0, .int 0, .int 0, .long 0, .null, .int 0, .int 0, .int 0, .null, .null, .null, .null, .int 0])), (q_1, .inl (cI, 512, .inl (fun _ => 0))), (q_2, .inl (cL, 1200, .inr (.inl (fun _ => 0)))), (q_3, .inl (cI, 4, .inl (fun _ => 0)))] H := hP
  have hD : va_D A [(m0, .inr (8, [.ref q_1, .int 0, .long 0, .int 0, .long 0, .int 0, .int 0, .int 0, .int 0, .int 0, .int 0, .long 0, .int 0, .int 0, .ref q_2, .ref q_3, .null, .null, .int 0, .int 0, .int 0, .long 0, .null, .int 0, .int 0, .int 0, .null, .null, .null, .null, .int 0])), (q_1, .inl (cI, 512, .inl (fun _ => 0))), (q_2, .inl (cL, 1200, .inr (.inl (fun _ => 0)))), (q_3, .inl (cI, 4, .inl (fun _ => 0)))] := hD
  refine lv_aload_n hx hb dX8_init_29 rfl (lv_at hl 0 rfl) ?_
  refine lv_iconst (v := 4) hx hb dX8_init_30 (by decide) ?_
  refine kNew_i (N := 4) hx hb (hts (.arrayClass .int) (List.mem_of_getElem? (i := 4) rfl)) hK hP hD hS hA (by decide) (by decide) (by decide) (Nat.le_of_ble_eq_true rfl) (Nat.le_of_ble_eq_true rfl) dX8_init_31 (fun q_4 H hP hD hS => ?_)
  have hP : va_P D vwCl [(m0, .inr (8, [.ref q_1, .int 0, .long 0, .int 0, .long 0, .int 0, .int 0, .int 0, .int 0, .int 0, .int 0, .long 0, .int 0, .int 0, .ref q_2, .ref q_3, .null, .null, .int 0, .int 0, .int 0, .long 0, .null, .int 0, .int 0, .int 0, .null, .null, .null, .null, .int 0])), (q_1, .inl (cI, 512, .inl (fun _ => 0))), (q_2, .inl (cL, 1200, .inr (.inl (fun _ => 0)))), (q_3, .inl (cI, 4, .inl (fun _ => 0))), (q_4, .inl (cI, 4, .inl (fun _ => 0)))] H := hP
  have hD : va_D A [(m0, .inr (8, [.ref q_1, .int 0, .long 0, .int 0, .long 0, .int 0, .int 0, .int 0, .int 0, .int 0, .int 0, .long 0, .int 0, .int 0, .ref q_2, .ref q_3, .null, .null, .int 0, .int 0, .int 0, .long 0, .null, .int 0, .int 0, .int 0, .null, .null, .null, .null, .int 0])), (q_1, .inl (cI, 512, .inl (fun _ => 0))), (q_2, .inl (cL, 1200, .inr (.inl (fun _ => 0)))), (q_3, .inl (cI, 4, .inl (fun _ => 0))), (q_4, .inl (cI, 4, .inl (fun _ => 0)))] := hD
  refine W.widen (k := 4) (n := 1720) (by omega) (by omega) ?_
  refine va_putF (D := D) (ci := 8) (v := .ref q_4) (ty := (.array .int)) (C := RX8) (T := TX8) (N := 31) hx hb hts iX8_init_X8 tyX8 tyX8_ok nmX8 hown hK hP hD hS 0 rfl rfl 16 (by decide) (hts (.fieldLink RX8 20 "TapeCalculatorModel" "stands" "[I") (List.mem_of_getElem? (i := 9) rfl)) (fun _ h9 => h9) rfl hnm rfl (by decide +kernel) rfl rfl (Nat.le_of_ble_eq_true rfl) dX8_init_33 (fun H locs hP hD hS => ?_)
  have hP : va_P D vwCl [(m0, .inr (8, [.ref q_1, .int 0, .long 0, .int 0, .long 0, .int 0, .int 0, .int 0, .int 0, .int 0, .int 0, .long 0, .int 0, .int 0, .ref q_2, .ref q_3, .ref q_4, .null, .int 0, .int 0, .int 0, .long 0, .null, .int 0, .int 0, .int 0, .null, .null, .null, .null, .int 0])), (q_1, .inl (cI, 512, .inl (fun _ => 0))), (q_2, .inl (cL, 1200, .inr (.inl (fun _ => 0)))), (q_3, .inl (cI, 4, .inl (fun _ => 0))), (q_4, .inl (cI, 4, .inl (fun _ => 0)))] H := hP
  have hD : va_D A [(m0, .inr (8, [.ref q_1, .int 0, .long 0, .int 0, .long 0, .int 0, .int 0, .int 0, .int 0, .int 0, .int 0, .long 0, .int 0, .int 0, .ref q_2, .ref q_3, .ref q_4, .null, .int 0, .int 0, .int 0, .long 0, .null, .int 0, .int 0, .int 0, .null, .null, .null, .null, .int 0])), (q_1, .inl (cI, 512, .inl (fun _ => 0))), (q_2, .inl (cL, 1200, .inr (.inl (fun _ => 0)))), (q_3, .inl (cI, 4, .inl (fun _ => 0))), (q_4, .inl (cI, 4, .inl (fun _ => 0)))] := hD
  refine lv_aload_n hx hb dX8_init_36 rfl (lv_at hl 0 rfl) ?_
  refine lv_sipush (v := 256) hx hb dX8_init_37 (by decide) ?_
  refine kNew_l (N := 256) hx hb (hts (.arrayClass .long) (List.mem_of_getElem? (i := 6) rfl)) hK hP hD hS hA (by decide) (by decide) (by decide) (Nat.le_of_ble_eq_true rfl) (Nat.le_of_ble_eq_true rfl) dX8_init_40 (fun q_5 H hP hD hS => ?_)
  have hP : va_P D vwCl [(m0, .inr (8, [.ref q_1, .int 0, .long 0, .int 0, .long 0, .int 0, .int 0, .int 0, .int 0, .int 0, .int 0, .long 0, .int 0, .int 0, .ref q_2, .ref q_3, .ref q_4, .null, .int 0, .int 0, .int 0, .long 0, .null, .int 0, .int 0, .int 0, .null, .null, .null, .null, .int 0])), (q_1, .inl (cI, 512, .inl (fun _ => 0))), (q_2, .inl (cL, 1200, .inr (.inl (fun _ => 0)))), (q_3, .inl (cI, 4, .inl (fun _ => 0))), (q_4, .inl (cI, 4, .inl (fun _ => 0))), (q_5, .inl (cL, 256, .inr (.inl (fun _ => 0))))] H := hP
  have hD : va_D A [(m0, .inr (8, [.ref q_1, .int 0, .long 0, .int 0, .long 0, .int 0, .int 0, .int 0, .int 0, .int 0, .int 0, .long 0, .int 0, .int 0, .ref q_2, .ref q_3, .ref q_4, .null, .int 0, .int 0, .int 0, .long 0, .null, .int 0, .int 0, .int 0, .null, .null, .null, .null, .int 0])), (q_1, .inl (cI, 512, .inl (fun _ => 0))), (q_2, .inl (cL, 1200, .inr (.inl (fun _ => 0)))), (q_3, .inl (cI, 4, .inl (fun _ => 0))), (q_4, .inl (cI, 4, .inl (fun _ => 0))), (q_5, .inl (cL, 256, .inr (.inl (fun _ => 0))))] := hD
  refine W.widen (k := 5) (n := 1976) (by omega) (by omega) ?_
  refine va_putF (D := D) (ci := 8) (v := .ref q_5) (ty := (.array .long)) (C := RX8) (T := TX8) (N := 31) hx hb hts iX8_init_X8 tyX8 tyX8_ok nmX8 hown hK hP hD hS 0 rfl rfl 17 (by decide) (hts (.fieldLink RX8 23 "TapeCalculatorModel" "drum" "[J") (List.mem_of_getElem? (i := 10) rfl)) (fun _ h9 => h9) rfl hnm rfl (by decide +kernel) rfl rfl (Nat.le_of_ble_eq_true rfl) dX8_init_42 (fun H locs hP hD hS => ?_)
  have hP : va_P D vwCl [(m0, .inr (8, [.ref q_1, .int 0, .long 0, .int 0, .long 0, .int 0, .int 0, .int 0, .int 0, .int 0, .int 0, .long 0, .int 0, .int 0, .ref q_2, .ref q_3, .ref q_4, .ref q_5, .int 0, .int 0, .int 0, .long 0, .null, .int 0, .int 0, .int 0, .null, .null, .null, .null, .int 0])), (q_1, .inl (cI, 512, .inl (fun _ => 0))), (q_2, .inl (cL, 1200, .inr (.inl (fun _ => 0)))), (q_3, .inl (cI, 4, .inl (fun _ => 0))), (q_4, .inl (cI, 4, .inl (fun _ => 0))), (q_5, .inl (cL, 256, .inr (.inl (fun _ => 0))))] H := hP
  have hD : va_D A [(m0, .inr (8, [.ref q_1, .int 0, .long 0, .int 0, .long 0, .int 0, .int 0, .int 0, .int 0, .int 0, .int 0, .long 0, .int 0, .int 0, .ref q_2, .ref q_3, .ref q_4, .ref q_5, .int 0, .int 0, .int 0, .long 0, .null, .int 0, .int 0, .int 0, .null, .null, .null, .null, .int 0])), (q_1, .inl (cI, 512, .inl (fun _ => 0))), (q_2, .inl (cL, 1200, .inr (.inl (fun _ => 0)))), (q_3, .inl (cI, 4, .inl (fun _ => 0))), (q_4, .inl (cI, 4, .inl (fun _ => 0))), (q_5, .inl (cL, 256, .inr (.inl (fun _ => 0))))] := hD
  refine lv_aload_n hx hb dX8_init_45 rfl (lv_at hl 0 rfl) ?_
  refine lv_sipush (v := 2000) hx hb dX8_init_46 (by decide) ?_
  refine kNew_b (N := 2000) hx hb (hts (.arrayClass .byte) (List.mem_of_getElem? (i := 11) rfl)) hK hP hD hS hA (by decide) (by decide) (by decide) (Nat.le_of_ble_eq_true rfl) (Nat.le_of_ble_eq_true rfl) dX8_init_49 (fun q_6 H hP hD hS => ?_)
  have hP : va_P D vwCl [(m0, .inr (8, [.ref q_1, .int 0, .long 0, .int 0, .long 0, .int 0, .int 0, .int 0, .int 0, .int 0, .int 0, .long 0, .int 0, .int 0, .ref q_2, .ref q_3, .ref q_4, .ref q_5, .int 0, .int 0, .int 0, .long 0, .null, .int 0, .int 0, .int 0, .null, .null, .null, .null, .int 0])), (q_1, .inl (cI, 512, .inl (fun _ => 0))), (q_2, .inl (cL, 1200, .inr (.inl (fun _ => 0)))), (q_3, .inl (cI, 4, .inl (fun _ => 0))), (q_4, .inl (cI, 4, .inl (fun _ => 0))), (q_5, .inl (cL, 256, .inr (.inl (fun _ => 0)))), (q_6, .inl (cB, 2000, .inl (fun _ => 0)))] H := hP
  have hD : va_D A [(m0, .inr (8, [.ref q_1, .int 0, .long 0, .int 0, .long 0, .int 0, .int 0, .int 0, .int 0, .int 0, .int 0, .long 0, .int 0, .int 0, .ref q_2, .ref q_3, .ref q_4, .ref q_5, .int 0, .int 0, .int 0, .long 0, .null, .int 0, .int 0, .int 0, .null, .null, .null, .null, .int 0])), (q_1, .inl (cI, 512, .inl (fun _ => 0))), (q_2, .inl (cL, 1200, .inr (.inl (fun _ => 0)))), (q_3, .inl (cI, 4, .inl (fun _ => 0))), (q_4, .inl (cI, 4, .inl (fun _ => 0))), (q_5, .inl (cL, 256, .inr (.inl (fun _ => 0)))), (q_6, .inl (cB, 2000, .inl (fun _ => 0)))] := hD
  refine W.widen (k := 6) (n := 3976) (by omega) (by omega) ?_
  refine va_putF (D := D) (ci := 8) (v := .ref q_6) (ty := (.array .byte)) (C := RX8) (T := TX8) (N := 31) hx hb hts iX8_init_X8 tyX8 tyX8_ok nmX8 hown hK hP hD hS 0 rfl rfl 22 (by decide) (hts (.fieldLink RX8 26 "TapeCalculatorModel" "text" "[B") (List.mem_of_getElem? (i := 12) rfl)) (fun _ h9 => h9) rfl hnm rfl (by decide +kernel) rfl rfl (Nat.le_of_ble_eq_true rfl) dX8_init_51 (fun H locs hP hD hS => ?_)
  have hP : va_P D vwCl [(m0, .inr (8, [.ref q_1, .int 0, .long 0, .int 0, .long 0, .int 0, .int 0, .int 0, .int 0, .int 0, .int 0, .long 0, .int 0, .int 0, .ref q_2, .ref q_3, .ref q_4, .ref q_5, .int 0, .int 0, .int 0, .long 0, .ref q_6, .int 0, .int 0, .int 0, .null, .null, .null, .null, .int 0])), (q_1, .inl (cI, 512, .inl (fun _ => 0))), (q_2, .inl (cL, 1200, .inr (.inl (fun _ => 0)))), (q_3, .inl (cI, 4, .inl (fun _ => 0))), (q_4, .inl (cI, 4, .inl (fun _ => 0))), (q_5, .inl (cL, 256, .inr (.inl (fun _ => 0)))), (q_6, .inl (cB, 2000, .inl (fun _ => 0)))] H := hP
  have hD : va_D A [(m0, .inr (8, [.ref q_1, .int 0, .long 0, .int 0, .long 0, .int 0, .int 0, .int 0, .int 0, .int 0, .int 0, .long 0, .int 0, .int 0, .ref q_2, .ref q_3, .ref q_4, .ref q_5, .int 0, .int 0, .int 0, .long 0, .ref q_6, .int 0, .int 0, .int 0, .null, .null, .null, .null, .int 0])), (q_1, .inl (cI, 512, .inl (fun _ => 0))), (q_2, .inl (cL, 1200, .inr (.inl (fun _ => 0)))), (q_3, .inl (cI, 4, .inl (fun _ => 0))), (q_4, .inl (cI, 4, .inl (fun _ => 0))), (q_5, .inl (cL, 256, .inr (.inl (fun _ => 0)))), (q_6, .inl (cB, 2000, .inl (fun _ => 0)))] := hD
  refine lv_aload_n hx hb dX8_init_54 rfl (lv_at hl 0 rfl) ?_
  refine lv_sipush (v := 200) hx hb dX8_init_55 (by decide) ?_
  refine kNew_i (N := 200) hx hb (hts (.arrayClass .int) (List.mem_of_getElem? (i := 4) rfl)) hK hP hD hS hA (by decide) (by decide) (by decide) (Nat.le_of_ble_eq_true rfl) (Nat.le_of_ble_eq_true rfl) dX8_init_58 (fun q_7 H hP hD hS => ?_)
  have hP : va_P D vwCl [(m0, .inr (8, [.ref q_1, .int 0, .long 0, .int 0, .long 0, .int 0, .int 0, .int 0, .int 0, .int 0, .int 0, .long 0, .int 0, .int 0, .ref q_2, .ref q_3, .ref q_4, .ref q_5, .int 0, .int 0, .int 0, .long 0, .ref q_6, .int 0, .int 0, .int 0, .null, .null, .null, .null, .int 0])), (q_1, .inl (cI, 512, .inl (fun _ => 0))), (q_2, .inl (cL, 1200, .inr (.inl (fun _ => 0)))), (q_3, .inl (cI, 4, .inl (fun _ => 0))), (q_4, .inl (cI, 4, .inl (fun _ => 0))), (q_5, .inl (cL, 256, .inr (.inl (fun _ => 0)))), (q_6, .inl (cB, 2000, .inl (fun _ => 0))), (q_7, .inl (cI, 200, .inl (fun _ => 0)))] H := hP
  have hD : va_D A [(m0, .inr (8, [.ref q_1, .int 0, .long 0, .int 0, .long 0, .int 0, .int 0, .int 0, .int 0, .int 0, .int 0, .long 0, .int 0, .int 0, .ref q_2, .ref q_3, .ref q_4, .ref q_5, .int 0, .int 0, .int 0, .long 0, .ref q_6, .int 0, .int 0, .int 0, .null, .null, .null, .null, .int 0])), (q_1, .inl (cI, 512, .inl (fun _ => 0))), (q_2, .inl (cL, 1200, .inr (.inl (fun _ => 0)))), (q_3, .inl (cI, 4, .inl (fun _ => 0))), (q_4, .inl (cI, 4, .inl (fun _ => 0))), (q_5, .inl (cL, 256, .inr (.inl (fun _ => 0)))), (q_6, .inl (cB, 2000, .inl (fun _ => 0))), (q_7, .inl (cI, 200, .inl (fun _ => 0)))] := hD
  refine W.widen (k := 7) (n := 4176) (by omega) (by omega) ?_
  refine va_putF (D := D) (ci := 8) (v := .ref q_7) (ty := (.array .int)) (C := RX8) (T := TX8) (N := 31) hx hb hts iX8_init_X8 tyX8 tyX8_ok nmX8 hown hK hP hD hS 0 rfl rfl 26 (by decide) (hts (.fieldLink RX8 30 "TapeCalculatorModel" "lineAt" "[I") (List.mem_of_getElem? (i := 13) rfl)) (fun _ h9 => h9) rfl hnm rfl (by decide +kernel) rfl rfl (Nat.le_of_ble_eq_true rfl) dX8_init_60 (fun H locs hP hD hS => ?_)
  have hP : va_P D vwCl [(m0, .inr (8, [.ref q_1, .int 0, .long 0, .int 0, .long 0, .int 0, .int 0, .int 0, .int 0, .int 0, .int 0, .long 0, .int 0, .int 0, .ref q_2, .ref q_3, .ref q_4, .ref q_5, .int 0, .int 0, .int 0, .long 0, .ref q_6, .int 0, .int 0, .int 0, .ref q_7, .null, .null, .null, .int 0])), (q_1, .inl (cI, 512, .inl (fun _ => 0))), (q_2, .inl (cL, 1200, .inr (.inl (fun _ => 0)))), (q_3, .inl (cI, 4, .inl (fun _ => 0))), (q_4, .inl (cI, 4, .inl (fun _ => 0))), (q_5, .inl (cL, 256, .inr (.inl (fun _ => 0)))), (q_6, .inl (cB, 2000, .inl (fun _ => 0))), (q_7, .inl (cI, 200, .inl (fun _ => 0)))] H := hP
  have hD : va_D A [(m0, .inr (8, [.ref q_1, .int 0, .long 0, .int 0, .long 0, .int 0, .int 0, .int 0, .int 0, .int 0, .int 0, .long 0, .int 0, .int 0, .ref q_2, .ref q_3, .ref q_4, .ref q_5, .int 0, .int 0, .int 0, .long 0, .ref q_6, .int 0, .int 0, .int 0, .ref q_7, .null, .null, .null, .int 0])), (q_1, .inl (cI, 512, .inl (fun _ => 0))), (q_2, .inl (cL, 1200, .inr (.inl (fun _ => 0)))), (q_3, .inl (cI, 4, .inl (fun _ => 0))), (q_4, .inl (cI, 4, .inl (fun _ => 0))), (q_5, .inl (cL, 256, .inr (.inl (fun _ => 0)))), (q_6, .inl (cB, 2000, .inl (fun _ => 0))), (q_7, .inl (cI, 200, .inl (fun _ => 0)))] := hD
  refine lv_aload_n hx hb dX8_init_63 rfl (lv_at hl 0 rfl) ?_
  refine lv_sipush (v := 200) hx hb dX8_init_64 (by decide) ?_
  refine kNew_l (N := 200) hx hb (hts (.arrayClass .long) (List.mem_of_getElem? (i := 6) rfl)) hK hP hD hS hA (by decide) (by decide) (by decide) (Nat.le_of_ble_eq_true rfl) (Nat.le_of_ble_eq_true rfl) dX8_init_67 (fun q_8 H hP hD hS => ?_)
  have hP : va_P D vwCl [(m0, .inr (8, [.ref q_1, .int 0, .long 0, .int 0, .long 0, .int 0, .int 0, .int 0, .int 0, .int 0, .int 0, .long 0, .int 0, .int 0, .ref q_2, .ref q_3, .ref q_4, .ref q_5, .int 0, .int 0, .int 0, .long 0, .ref q_6, .int 0, .int 0, .int 0, .ref q_7, .null, .null, .null, .int 0])), (q_1, .inl (cI, 512, .inl (fun _ => 0))), (q_2, .inl (cL, 1200, .inr (.inl (fun _ => 0)))), (q_3, .inl (cI, 4, .inl (fun _ => 0))), (q_4, .inl (cI, 4, .inl (fun _ => 0))), (q_5, .inl (cL, 256, .inr (.inl (fun _ => 0)))), (q_6, .inl (cB, 2000, .inl (fun _ => 0))), (q_7, .inl (cI, 200, .inl (fun _ => 0))), (q_8, .inl (cL, 200, .inr (.inl (fun _ => 0))))] H := hP
  have hD : va_D A [(m0, .inr (8, [.ref q_1, .int 0, .long 0, .int 0, .long 0, .int 0, .int 0, .int 0, .int 0, .int 0, .int 0, .long 0, .int 0, .int 0, .ref q_2, .ref q_3, .ref q_4, .ref q_5, .int 0, .int 0, .int 0, .long 0, .ref q_6, .int 0, .int 0, .int 0, .ref q_7, .null, .null, .null, .int 0])), (q_1, .inl (cI, 512, .inl (fun _ => 0))), (q_2, .inl (cL, 1200, .inr (.inl (fun _ => 0)))), (q_3, .inl (cI, 4, .inl (fun _ => 0))), (q_4, .inl (cI, 4, .inl (fun _ => 0))), (q_5, .inl (cL, 256, .inr (.inl (fun _ => 0)))), (q_6, .inl (cB, 2000, .inl (fun _ => 0))), (q_7, .inl (cI, 200, .inl (fun _ => 0))), (q_8, .inl (cL, 200, .inr (.inl (fun _ => 0))))] := hD
  refine W.widen (k := 8) (n := 4376) (by omega) (by omega) ?_
  refine va_putF (D := D) (ci := 8) (v := .ref q_8) (ty := (.array .long)) (C := RX8) (T := TX8) (N := 31) hx hb hts iX8_init_X8 tyX8 tyX8_ok nmX8 hown hK hP hD hS 0 rfl rfl 27 (by decide) (hts (.fieldLink RX8 33 "TapeCalculatorModel" "lineBits" "[J") (List.mem_of_getElem? (i := 14) rfl)) (fun _ h9 => h9) rfl hnm rfl (by decide +kernel) rfl rfl (Nat.le_of_ble_eq_true rfl) dX8_init_69 (fun H locs hP hD hS => ?_)
  have hP : va_P D vwCl [(m0, .inr (8, [.ref q_1, .int 0, .long 0, .int 0, .long 0, .int 0, .int 0, .int 0, .int 0, .int 0, .int 0, .long 0, .int 0, .int 0, .ref q_2, .ref q_3, .ref q_4, .ref q_5, .int 0, .int 0, .int 0, .long 0, .ref q_6, .int 0, .int 0, .int 0, .ref q_7, .ref q_8, .null, .null, .int 0])), (q_1, .inl (cI, 512, .inl (fun _ => 0))), (q_2, .inl (cL, 1200, .inr (.inl (fun _ => 0)))), (q_3, .inl (cI, 4, .inl (fun _ => 0))), (q_4, .inl (cI, 4, .inl (fun _ => 0))), (q_5, .inl (cL, 256, .inr (.inl (fun _ => 0)))), (q_6, .inl (cB, 2000, .inl (fun _ => 0))), (q_7, .inl (cI, 200, .inl (fun _ => 0))), (q_8, .inl (cL, 200, .inr (.inl (fun _ => 0))))] H := hP
  have hD : va_D A [(m0, .inr (8, [.ref q_1, .int 0, .long 0, .int 0, .long 0, .int 0, .int 0, .int 0, .int 0, .int 0, .int 0, .long 0, .int 0, .int 0, .ref q_2, .ref q_3, .ref q_4, .ref q_5, .int 0, .int 0, .int 0, .long 0, .ref q_6, .int 0, .int 0, .int 0, .ref q_7, .ref q_8, .null, .null, .int 0])), (q_1, .inl (cI, 512, .inl (fun _ => 0))), (q_2, .inl (cL, 1200, .inr (.inl (fun _ => 0)))), (q_3, .inl (cI, 4, .inl (fun _ => 0))), (q_4, .inl (cI, 4, .inl (fun _ => 0))), (q_5, .inl (cL, 256, .inr (.inl (fun _ => 0)))), (q_6, .inl (cB, 2000, .inl (fun _ => 0))), (q_7, .inl (cI, 200, .inl (fun _ => 0))), (q_8, .inl (cL, 200, .inr (.inl (fun _ => 0))))] := hD
  refine lv_aload_n hx hb dX8_init_72 rfl (lv_at hl 0 rfl) ?_
  refine lv_sipush (v := 200) hx hb dX8_init_73 (by decide) ?_
  refine kNew_z (N := 200) hx hb (hts (.arrayClass .boolean) (List.mem_of_getElem? (i := 15) rfl)) hK hP hD hS hA (by decide) (by decide) (by decide) (Nat.le_of_ble_eq_true rfl) (Nat.le_of_ble_eq_true rfl) dX8_init_76 (fun q_9 H hP hD hS => ?_)
  have hP : va_P D vwCl [(m0, .inr (8, [.ref q_1, .int 0, .long 0, .int 0, .long 0, .int 0, .int 0, .int 0, .int 0, .int 0, .int 0, .long 0, .int 0, .int 0, .ref q_2, .ref q_3, .ref q_4, .ref q_5, .int 0, .int 0, .int 0, .long 0, .ref q_6, .int 0, .int 0, .int 0, .ref q_7, .ref q_8, .null, .null, .int 0])), (q_1, .inl (cI, 512, .inl (fun _ => 0))), (q_2, .inl (cL, 1200, .inr (.inl (fun _ => 0)))), (q_3, .inl (cI, 4, .inl (fun _ => 0))), (q_4, .inl (cI, 4, .inl (fun _ => 0))), (q_5, .inl (cL, 256, .inr (.inl (fun _ => 0)))), (q_6, .inl (cB, 2000, .inl (fun _ => 0))), (q_7, .inl (cI, 200, .inl (fun _ => 0))), (q_8, .inl (cL, 200, .inr (.inl (fun _ => 0)))), (q_9, .inl (cZ, 200, .inl (fun _ => 0)))] H := hP
  have hD : va_D A [(m0, .inr (8, [.ref q_1, .int 0, .long 0, .int 0, .long 0, .int 0, .int 0, .int 0, .int 0, .int 0, .int 0, .long 0, .int 0, .int 0, .ref q_2, .ref q_3, .ref q_4, .ref q_5, .int 0, .int 0, .int 0, .long 0, .ref q_6, .int 0, .int 0, .int 0, .ref q_7, .ref q_8, .null, .null, .int 0])), (q_1, .inl (cI, 512, .inl (fun _ => 0))), (q_2, .inl (cL, 1200, .inr (.inl (fun _ => 0)))), (q_3, .inl (cI, 4, .inl (fun _ => 0))), (q_4, .inl (cI, 4, .inl (fun _ => 0))), (q_5, .inl (cL, 256, .inr (.inl (fun _ => 0)))), (q_6, .inl (cB, 2000, .inl (fun _ => 0))), (q_7, .inl (cI, 200, .inl (fun _ => 0))), (q_8, .inl (cL, 200, .inr (.inl (fun _ => 0)))), (q_9, .inl (cZ, 200, .inl (fun _ => 0)))] := hD
  refine W.widen (k := 9) (n := 4576) (by omega) (by omega) ?_
  refine va_putF (D := D) (ci := 8) (v := .ref q_9) (ty := (.array .boolean)) (C := RX8) (T := TX8) (N := 31) hx hb hts iX8_init_X8 tyX8 tyX8_ok nmX8 hown hK hP hD hS 0 rfl rfl 28 (by decide) (hts (.fieldLink RX8 36 "TapeCalculatorModel" "lineWhole" "[Z") (List.mem_of_getElem? (i := 16) rfl)) (fun _ h9 => h9) rfl hnm rfl (by decide +kernel) rfl rfl (Nat.le_of_ble_eq_true rfl) dX8_init_78 (fun H locs hP hD hS => ?_)
  have hP : va_P D vwCl [(m0, .inr (8, [.ref q_1, .int 0, .long 0, .int 0, .long 0, .int 0, .int 0, .int 0, .int 0, .int 0, .int 0, .long 0, .int 0, .int 0, .ref q_2, .ref q_3, .ref q_4, .ref q_5, .int 0, .int 0, .int 0, .long 0, .ref q_6, .int 0, .int 0, .int 0, .ref q_7, .ref q_8, .ref q_9, .null, .int 0])), (q_1, .inl (cI, 512, .inl (fun _ => 0))), (q_2, .inl (cL, 1200, .inr (.inl (fun _ => 0)))), (q_3, .inl (cI, 4, .inl (fun _ => 0))), (q_4, .inl (cI, 4, .inl (fun _ => 0))), (q_5, .inl (cL, 256, .inr (.inl (fun _ => 0)))), (q_6, .inl (cB, 2000, .inl (fun _ => 0))), (q_7, .inl (cI, 200, .inl (fun _ => 0))), (q_8, .inl (cL, 200, .inr (.inl (fun _ => 0)))), (q_9, .inl (cZ, 200, .inl (fun _ => 0)))] H := hP
  have hD : va_D A [(m0, .inr (8, [.ref q_1, .int 0, .long 0, .int 0, .long 0, .int 0, .int 0, .int 0, .int 0, .int 0, .int 0, .long 0, .int 0, .int 0, .ref q_2, .ref q_3, .ref q_4, .ref q_5, .int 0, .int 0, .int 0, .long 0, .ref q_6, .int 0, .int 0, .int 0, .ref q_7, .ref q_8, .ref q_9, .null, .int 0])), (q_1, .inl (cI, 512, .inl (fun _ => 0))), (q_2, .inl (cL, 1200, .inr (.inl (fun _ => 0)))), (q_3, .inl (cI, 4, .inl (fun _ => 0))), (q_4, .inl (cI, 4, .inl (fun _ => 0))), (q_5, .inl (cL, 256, .inr (.inl (fun _ => 0)))), (q_6, .inl (cB, 2000, .inl (fun _ => 0))), (q_7, .inl (cI, 200, .inl (fun _ => 0))), (q_8, .inl (cL, 200, .inr (.inl (fun _ => 0)))), (q_9, .inl (cZ, 200, .inl (fun _ => 0)))] := hD
  refine lv_aload_n hx hb dX8_init_81 rfl (lv_at hl 0 rfl) ?_
  refine lv_bipush (v := 16) hx hb dX8_init_82 (by decide) ?_
  refine kNew_b (N := 16) hx hb (hts (.arrayClass .byte) (List.mem_of_getElem? (i := 11) rfl)) hK hP hD hS hA (by decide) (by decide) (by decide) (Nat.le_of_ble_eq_true rfl) (Nat.le_of_ble_eq_true rfl) dX8_init_84 (fun q_10 H hP hD hS => ?_)
  have hP : va_P D vwCl [(m0, .inr (8, [.ref q_1, .int 0, .long 0, .int 0, .long 0, .int 0, .int 0, .int 0, .int 0, .int 0, .int 0, .long 0, .int 0, .int 0, .ref q_2, .ref q_3, .ref q_4, .ref q_5, .int 0, .int 0, .int 0, .long 0, .ref q_6, .int 0, .int 0, .int 0, .ref q_7, .ref q_8, .ref q_9, .null, .int 0])), (q_1, .inl (cI, 512, .inl (fun _ => 0))), (q_2, .inl (cL, 1200, .inr (.inl (fun _ => 0)))), (q_3, .inl (cI, 4, .inl (fun _ => 0))), (q_4, .inl (cI, 4, .inl (fun _ => 0))), (q_5, .inl (cL, 256, .inr (.inl (fun _ => 0)))), (q_6, .inl (cB, 2000, .inl (fun _ => 0))), (q_7, .inl (cI, 200, .inl (fun _ => 0))), (q_8, .inl (cL, 200, .inr (.inl (fun _ => 0)))), (q_9, .inl (cZ, 200, .inl (fun _ => 0))), (q_10, .inl (cB, 16, .inl (fun _ => 0)))] H := hP
  have hD : va_D A [(m0, .inr (8, [.ref q_1, .int 0, .long 0, .int 0, .long 0, .int 0, .int 0, .int 0, .int 0, .int 0, .int 0, .long 0, .int 0, .int 0, .ref q_2, .ref q_3, .ref q_4, .ref q_5, .int 0, .int 0, .int 0, .long 0, .ref q_6, .int 0, .int 0, .int 0, .ref q_7, .ref q_8, .ref q_9, .null, .int 0])), (q_1, .inl (cI, 512, .inl (fun _ => 0))), (q_2, .inl (cL, 1200, .inr (.inl (fun _ => 0)))), (q_3, .inl (cI, 4, .inl (fun _ => 0))), (q_4, .inl (cI, 4, .inl (fun _ => 0))), (q_5, .inl (cL, 256, .inr (.inl (fun _ => 0)))), (q_6, .inl (cB, 2000, .inl (fun _ => 0))), (q_7, .inl (cI, 200, .inl (fun _ => 0))), (q_8, .inl (cL, 200, .inr (.inl (fun _ => 0)))), (q_9, .inl (cZ, 200, .inl (fun _ => 0))), (q_10, .inl (cB, 16, .inl (fun _ => 0)))] := hD
  refine W.widen (k := 10) (n := 4592) (by omega) (by omega) ?_
  refine va_putF (D := D) (ci := 8) (v := .ref q_10) (ty := (.array .byte)) (C := RX8) (T := TX8) (N := 31) hx hb hts iX8_init_X8 tyX8 tyX8_ok nmX8 hown hK hP hD hS 0 rfl rfl 29 (by decide) (hts (.fieldLink RX8 40 "TapeCalculatorModel" "line" "[B") (List.mem_of_getElem? (i := 17) rfl)) (fun _ h9 => h9) rfl hnm rfl (by decide +kernel) rfl rfl (Nat.le_of_ble_eq_true rfl) dX8_init_86 (fun H locs hP hD hS => ?_)
  have hP : va_P D vwCl [(m0, .inr (8, [.ref q_1, .int 0, .long 0, .int 0, .long 0, .int 0, .int 0, .int 0, .int 0, .int 0, .int 0, .long 0, .int 0, .int 0, .ref q_2, .ref q_3, .ref q_4, .ref q_5, .int 0, .int 0, .int 0, .long 0, .ref q_6, .int 0, .int 0, .int 0, .ref q_7, .ref q_8, .ref q_9, .ref q_10, .int 0])), (q_1, .inl (cI, 512, .inl (fun _ => 0))), (q_2, .inl (cL, 1200, .inr (.inl (fun _ => 0)))), (q_3, .inl (cI, 4, .inl (fun _ => 0))), (q_4, .inl (cI, 4, .inl (fun _ => 0))), (q_5, .inl (cL, 256, .inr (.inl (fun _ => 0)))), (q_6, .inl (cB, 2000, .inl (fun _ => 0))), (q_7, .inl (cI, 200, .inl (fun _ => 0))), (q_8, .inl (cL, 200, .inr (.inl (fun _ => 0)))), (q_9, .inl (cZ, 200, .inl (fun _ => 0))), (q_10, .inl (cB, 16, .inl (fun _ => 0)))] H := hP
  have hD : va_D A [(m0, .inr (8, [.ref q_1, .int 0, .long 0, .int 0, .long 0, .int 0, .int 0, .int 0, .int 0, .int 0, .int 0, .long 0, .int 0, .int 0, .ref q_2, .ref q_3, .ref q_4, .ref q_5, .int 0, .int 0, .int 0, .long 0, .ref q_6, .int 0, .int 0, .int 0, .ref q_7, .ref q_8, .ref q_9, .ref q_10, .int 0])), (q_1, .inl (cI, 512, .inl (fun _ => 0))), (q_2, .inl (cL, 1200, .inr (.inl (fun _ => 0)))), (q_3, .inl (cI, 4, .inl (fun _ => 0))), (q_4, .inl (cI, 4, .inl (fun _ => 0))), (q_5, .inl (cL, 256, .inr (.inl (fun _ => 0)))), (q_6, .inl (cB, 2000, .inl (fun _ => 0))), (q_7, .inl (cI, 200, .inl (fun _ => 0))), (q_8, .inl (cL, 200, .inr (.inl (fun _ => 0)))), (q_9, .inl (cZ, 200, .inl (fun _ => 0))), (q_10, .inl (cB, 16, .inl (fun _ => 0)))] := hD
  refine lv_aload_n hx hb dX8_init_89 rfl (lv_at hl 0 rfl) ?_
  refine lv_iconst (v := 0) hx hb dX8_init_90 (by decide) ?_
  refine va_put (D := D) (ci := 8) (v := .int 0) (ty := .int) (C := RX8) (T := TX8) (N := 31) hx hb hts iX8_init_X8 tyX8 tyX8_ok nmX8 hown hK hP hD hS 0 rfl rfl 12 (by decide) (hts (.fieldLink RX8 43 "TapeCalculatorModel" "chosen" "I") (List.mem_of_getElem? (i := 18) rfl)) (fun _ h9 => h9) rfl (by decide +kernel) rfl rfl (Nat.le_of_ble_eq_true rfl) dX8_init_91 (fun H locs hP hD hS => ?_)
  have hP : va_P D vwCl [(m0, .inr (8, [.ref q_1, .int 0, .long 0, .int 0, .long 0, .int 0, .int 0, .int 0, .int 0, .int 0, .int 0, .long 0, .int 0, .int 0, .ref q_2, .ref q_3, .ref q_4, .ref q_5, .int 0, .int 0, .int 0, .long 0, .ref q_6, .int 0, .int 0, .int 0, .ref q_7, .ref q_8, .ref q_9, .ref q_10, .int 0])), (q_1, .inl (cI, 512, .inl (fun _ => 0))), (q_2, .inl (cL, 1200, .inr (.inl (fun _ => 0)))), (q_3, .inl (cI, 4, .inl (fun _ => 0))), (q_4, .inl (cI, 4, .inl (fun _ => 0))), (q_5, .inl (cL, 256, .inr (.inl (fun _ => 0)))), (q_6, .inl (cB, 2000, .inl (fun _ => 0))), (q_7, .inl (cI, 200, .inl (fun _ => 0))), (q_8, .inl (cL, 200, .inr (.inl (fun _ => 0)))), (q_9, .inl (cZ, 200, .inl (fun _ => 0))), (q_10, .inl (cB, 16, .inl (fun _ => 0)))] H := hP
  have hD : va_D A [(m0, .inr (8, [.ref q_1, .int 0, .long 0, .int 0, .long 0, .int 0, .int 0, .int 0, .int 0, .int 0, .int 0, .long 0, .int 0, .int 0, .ref q_2, .ref q_3, .ref q_4, .ref q_5, .int 0, .int 0, .int 0, .long 0, .ref q_6, .int 0, .int 0, .int 0, .ref q_7, .ref q_8, .ref q_9, .ref q_10, .int 0])), (q_1, .inl (cI, 512, .inl (fun _ => 0))), (q_2, .inl (cL, 1200, .inr (.inl (fun _ => 0)))), (q_3, .inl (cI, 4, .inl (fun _ => 0))), (q_4, .inl (cI, 4, .inl (fun _ => 0))), (q_5, .inl (cL, 256, .inr (.inl (fun _ => 0)))), (q_6, .inl (cB, 2000, .inl (fun _ => 0))), (q_7, .inl (cI, 200, .inl (fun _ => 0))), (q_8, .inl (cL, 200, .inr (.inl (fun _ => 0)))), (q_9, .inl (cZ, 200, .inl (fun _ => 0))), (q_10, .inl (cB, 16, .inl (fun _ => 0)))] := hD
  refine W.widen (k := 10) (n := 4592) (by omega) (by omega) ?_
  refine kVret (u := (q_1, q_2, q_3, q_4, q_5, q_6, q_7, q_8, q_9, q_10)) hx hb hr hlocks hS dX8_init_94 ?_ (hP.sub [0, 1, 2, 3, 4, 5, 6, 7, 8, 9, 10] rfl) (hD.sub [0, 1, 2, 3, 4, 5, 6, 7, 8, 9, 10] (by decide) rfl)
  exact trivial
theorem k_div {n : Int32} {m : Nat} (h : 0 ≤ n.toInt ∧ n.toInt = m) (d : Nat) (h0 : 0 < d) (hd : d < 2 ^ 31) : (n / nI d).toInt = ((m / d : Nat) : Int) := by
  obtain ⟨j, hj, rfl⟩ := nI_of (x := n) (by rw [Int32.lt_iff_toInt_lt]; simp only [Int32.reduceToInt]; omega)
  rw [nI_toInt hj] at h
  obtain rfl : j = m := by omega
  rw [pk_div hj h0 hd, nI_toInt (Nat.lt_of_le_of_lt (Nat.div_le_self _ _) hj)]
theorem k_div3 {n : Int32} (h : 0 ≤ n.toInt ∧ n.toInt ≤ 511) : (n / 1).toInt = n.toInt ∧ (n / 10).toInt = n.toInt / 10 ∧ (n / 100).toInt = n.toInt / 100 := by
  obtain ⟨m, hm⟩ : ∃ m : Nat, n.toInt = m := ⟨n.toInt.toNat, by omega⟩
  have e1 : (n / 1).toInt = ((m / 1 : Nat) : Int) := k_div ⟨h.1, hm⟩ 1 (by omega) (by omega)
  have e2 : (n / 10).toInt = ((m / 10 : Nat) : Int) := k_div ⟨h.1, hm⟩ 10 (by omega) (by omega)
  have e3 : (n / 100).toInt = ((m / 100 : Nat) : Int) := k_div ⟨h.1, hm⟩ 100 (by omega) (by omega)
  rw [e1, e2, e3, hm]
  refine ⟨?_, ?_, ?_⟩ <;> omega
set_option maxRecDepth 100000 in
theorem iX8_write_X8 : ∀ w ∈ wsX80, w ∈ wsX8_write := fun w h => (goodIn_r (big := wsX8_write) wsX80 [3, 4, 5, 6, 7, 8, 9, 10, 11, 12, 13, 14, 15, 16, 17, 18, 19, 20, 21, 22, 23, 24, 25, 26, 27, 28, 29, 30, 31, 32, 33] rfl (by decide +kernel) w h).1
set_option maxRecDepth 100000 in
set_option maxHeartbeats 4000000 in
theorem r_writeN_1 (l : Launch) (D : va_G) (cI cL cB cZ cT : ClassId) (sz : Nat) (m0 mH mI mJ mS mD mX mA mB mW mL : Nat) (n : Int32) (hn : 0 ≤ n.toInt ∧ n.toInt ≤ 9) : kM (S := Unit) l yX8_write wsX8_write ({ frames := 0, cells := 0, slots := 0, locals := 0 }) D (kT cI cL cB cZ cT) [.ref m0, .int n] [(m0, .inr (8, [.ref mH, .int 0, .long 0, .int 0, .long 0, .int 0, .int 0, .int 0, .int 0, .int 0, .int 0, .long 0, .int 0, .int 0, .ref mI, .ref mJ, .ref mS, .ref mD, .int 0, .int 0, .int 0, .long 0, .ref mX, .int 0, .int 0, .int 0, .ref mA, .ref mB, .ref mW, .ref mL, .int 0])), (mL, .inl (cB, 16, .inl (fun _ => 0)))] sz eV (fun _ _ => True) (fun _ => [(m0, .inr (8, [.ref mH, .int 0, .long 0, .int 0, .long 0, .int 0, .int 0, .int 0, .int 0, .int 0, .int 0, .long 0, .int 0, .int 0, .ref mI, .ref mJ, .ref mS, .ref mD, .int 0, .int 0, .int 0, .long 0, .ref mX, .int 0, .int 0, .int 0, .ref mA, .ref mB, .ref mW, .ref mL, .int 1])), (mL, .inl (cB, 16, .inl (upd (fun _ => 0) (0 : Int32).toNatClampNeg (vp_nar .byte (48 + ((n / 1) - (n / 1) / 10 * 10)).toInt8.toInt32))))]) 0 0 := by
  refine kStart (cc := cX8_write) (maxL := 3) (ret := none) (own := RX8) (by decide) rfl rfl (Nat.le_of_ble_eq_true rfl) ?_
  intro p e s m args below meth c A ls hx hb hr hml hown hts hlocks hnm hsz hA hG hP hD hS hl
  have hK := hG.1
  have hl : lv_has ls 3 [(0, .ref m0), (1, .int n)] := hl
  obtain ⟨hq1, hq2, hq3⟩ := k_div3 (n := n) (by omega)
  refine lv_iconst (v := 1) hx hb dX8_write_0 (by decide) ?_
  refine lv_istore_n (lv' := [(2, .int 1), (0, .ref m0), (1, .int n)]) hx hb dX8_write_1 rfl hl (by decide) rfl (fun ls hl => ?_)
  refine lv_iload_n hx hb dX8_write_2 rfl (lv_at hl 2 rfl) ?_
  refine lv_iload_n hx hb dX8_write_3 rfl (lv_at hl 0 rfl) ?_
  refine lv_idiv hx hb dX8_write_4 (by decide) ?_
  refine lv_bipush (v := 9) hx hb dX8_write_5 (by decide) ?_
  refine lv_icmp_le (tgt := 18) hx hb dX8_write_7 (by decide) (fun c_7_0 => ?_) (fun c_7_0 => ?_)
  · have t_7_0 := c_7_0
    try simp only [kb_eq0, kb_ne0, lg_cmp_lt, lg_cmp_le, lg_cmp_gt, lg_cmp_ge, lg_cmp_eq] at t_7_0
    try simp only [Int32.lt_iff_toInt_lt, Int32.le_iff_toInt_le, ← Int32.toInt_inj, Int64.lt_iff_toInt_lt, Int64.le_iff_toInt_le, ← Int64.toInt_inj, Int32.toInt_toInt64, Int32.reduceToInt, Int64.reduceToInt] at t_7_0
    refine lv_iload_n hx hb dX8_write_18 rfl (lv_at hl 0 rfl) ?_
    refine lv_if_le (tgt := 59) hx hb dX8_write_19 (by decide) (fun c_19_1 => ?_) (fun c_19_1 => ?_)
    · exact absurd c_19_1 (by decide)
    · have t_19_1 := c_19_1
      try simp only [kb_eq0, kb_ne0, lg_cmp_lt, lg_cmp_le, lg_cmp_gt, lg_cmp_ge, lg_cmp_eq] at t_19_1
      try simp only [Int32.lt_iff_toInt_lt, Int32.le_iff_toInt_le, ← Int32.toInt_inj, Int64.lt_iff_toInt_lt, Int64.le_iff_toInt_le, ← Int64.toInt_inj, Int32.toInt_toInt64, Int32.reduceToInt, Int64.reduceToInt] at t_19_1
      refine lv_aload_n hx hb dX8_write_22 rfl (lv_at hl 1 rfl) ?_
      refine va_get (D := D) (ci := 8) (v := .ref mL) (C := RX8) (T := TX8) (N := 31) hx hb hts iX8_write_X8 hown hK hP 0 rfl rfl 29 (by decide) (hts (.fieldLink RX8 40 "TapeCalculatorModel" "line" "[B") (List.mem_of_getElem? (i := 1) rfl)) (fun _ h9 => h9) rfl dX8_write_23 ?_
      refine lv_aload_n hx hb dX8_write_26 rfl (lv_at hl 1 rfl) ?_
      refine va_get (D := D) (ci := 8) (v := .int 0) (C := RX8) (T := TX8) (N := 31) hx hb hts iX8_write_X8 hown hK hP 0 rfl rfl 30 (by decide) (hts (.fieldLink RX8 285 "TapeCalculatorModel" "lineSize" "I") (List.mem_of_getElem? (i := 2) rfl)) (fun _ h9 => h9) rfl dX8_write_27 ?_
      refine lv_bipush (v := 48) hx hb dX8_write_30 (by decide) ?_
      refine lv_iload_n hx hb dX8_write_32 rfl (lv_at hl 2 rfl) ?_
      refine lv_iload_n hx hb dX8_write_33 rfl (lv_at hl 0 rfl) ?_
      refine lv_idiv hx hb dX8_write_34 (by decide) ?_
      refine lv_bipush (v := 10) hx hb dX8_write_35 (by decide) ?_
      refine lv_irem hx hb dX8_write_37 (by decide) ?_
      refine lv_iadd hx hb dX8_write_38 ?_
      refine lv_i2b hx hb dX8_write_39 rfl ?_
      refine va_bast hx hb hK hP hD hS 1 2 rfl rfl (vp_in_iff.mpr (by decide)) dX8_write_40 (fun H locs hP hD hS => ?_)
      have hP : va_P D vwCl [(m0, .inr (8, [.ref mH, .int 0, .long 0, .int 0, .long 0, .int 0, .int 0, .int 0, .int 0, .int 0, .int 0, .long 0, .int 0, .int 0, .ref mI, .ref mJ, .ref mS, .ref mD, .int 0, .int 0, .int 0, .long 0, .ref mX, .int 0, .int 0, .int 0, .ref mA, .ref mB, .ref mW, .ref mL, .int 0])), (mL, .inl (cB, 16, .inl (upd (fun _ => 0) (0 : Int32).toNatClampNeg (vp_nar .byte (48 + ((n / 1) - (n / 1) / 10 * 10)).toInt8.toInt32))))] H := hP
      have hD : va_D A [(m0, .inr (8, [.ref mH, .int 0, .long 0, .int 0, .long 0, .int 0, .int 0, .int 0, .int 0, .int 0, .int 0, .long 0, .int 0, .int 0, .ref mI, .ref mJ, .ref mS, .ref mD, .int 0, .int 0, .int 0, .long 0, .ref mX, .int 0, .int 0, .int 0, .ref mA, .ref mB, .ref mW, .ref mL, .int 0])), (mL, .inl (cB, 16, .inl (upd (fun _ => 0) (0 : Int32).toNatClampNeg (vp_nar .byte (48 + ((n / 1) - (n / 1) / 10 * 10)).toInt8.toInt32))))] := hD
      refine lv_aload_n hx hb dX8_write_41 rfl (lv_at hl 1 rfl) ?_
      refine lv_dup hx hb dX8_write_42 rfl ?_
      refine va_get (D := D) (ci := 8) (v := .int 0) (C := RX8) (T := TX8) (N := 31) hx hb hts iX8_write_X8 hown hK hP 0 rfl rfl 30 (by decide) (hts (.fieldLink RX8 285 "TapeCalculatorModel" "lineSize" "I") (List.mem_of_getElem? (i := 2) rfl)) (fun _ h9 => h9) rfl dX8_write_43 ?_
      refine lv_iconst (v := 1) hx hb dX8_write_46 (by decide) ?_
      refine lv_iadd hx hb dX8_write_47 ?_
      refine lv_topi (fun x_3 ex_3 => ?_)
      obtain rfl : x_3 = 1 := ex_3.trans (by decide)
      refine va_put (D := D) (ci := 8) (v := .int 1) (ty := .int) (C := RX8) (T := TX8) (N := 31) hx hb hts iX8_write_X8 tyX8 tyX8_ok nmX8 hown hK hP hD hS 0 rfl rfl 30 (by decide) (hts (.fieldLink RX8 285 "TapeCalculatorModel" "lineSize" "I") (List.mem_of_getElem? (i := 2) rfl)) (fun _ h9 => h9) rfl (by decide +kernel) rfl rfl (Nat.le_of_ble_eq_true rfl) dX8_write_48 (fun H locs hP hD hS => ?_)
      have hP : va_P D vwCl [(m0, .inr (8, [.ref mH, .int 0, .long 0, .int 0, .long 0, .int 0, .int 0, .int 0, .int 0, .int 0, .int 0, .long 0, .int 0, .int 0, .ref mI, .ref mJ, .ref mS, .ref mD, .int 0, .int 0, .int 0, .long 0, .ref mX, .int 0, .int 0, .int 0, .ref mA, .ref mB, .ref mW, .ref mL, .int 1])), (mL, .inl (cB, 16, .inl (upd (fun _ => 0) (0 : Int32).toNatClampNeg (vp_nar .byte (48 + ((n / 1) - (n / 1) / 10 * 10)).toInt8.toInt32))))] H := hP
      have hD : va_D A [(m0, .inr (8, [.ref mH, .int 0, .long 0, .int 0, .long 0, .int 0, .int 0, .int 0, .int 0, .int 0, .int 0, .long 0, .int 0, .int 0, .ref mI, .ref mJ, .ref mS, .ref mD, .int 0, .int 0, .int 0, .long 0, .ref mX, .int 0, .int 0, .int 0, .ref mA, .ref mB, .ref mW, .ref mL, .int 1])), (mL, .inl (cB, 16, .inl (upd (fun _ => 0) (0 : Int32).toNatClampNeg (vp_nar .byte (48 + ((n / 1) - (n / 1) / 10 * 10)).toInt8.toInt32))))] := hD
      refine lv_iload_n hx hb dX8_write_51 rfl (lv_at hl 0 rfl) ?_
      refine lv_bipush (v := 10) hx hb dX8_write_52 (by decide) ?_
      refine lv_idiv hx hb dX8_write_54 (by decide) ?_
      refine lv_topi (fun x_4 ex_4 => ?_)
      obtain rfl : x_4 = 0 := ex_4.trans (by decide)
      refine lv_istore_n (lv' := [(2, .int 0), (0, .ref m0), (1, .int n)]) hx hb dX8_write_55 rfl hl (by decide) rfl (fun ls hl => ?_)
      refine lv_goto (tgt := 18) hx hb dX8_write_56 (by decide) ?_
      refine lv_iload_n hx hb dX8_write_18 rfl (lv_at hl 0 rfl) ?_
      refine lv_if_le (tgt := 59) hx hb dX8_write_19 (by decide) (fun c_19_4 => ?_) (fun c_19_4 => ?_)
      · have t_19_4 := c_19_4
        try simp only [kb_eq0, kb_ne0, lg_cmp_lt, lg_cmp_le, lg_cmp_gt, lg_cmp_ge, lg_cmp_eq] at t_19_4
        try simp only [Int32.lt_iff_toInt_lt, Int32.le_iff_toInt_le, ← Int32.toInt_inj, Int64.lt_iff_toInt_lt, Int64.le_iff_toInt_le, ← Int64.toInt_inj, Int32.toInt_toInt64, Int32.reduceToInt, Int64.reduceToInt] at t_19_4
        refine kVret (u := ()) hx hb hr hlocks hS dX8_write_59 ?_ (hP.sub [0, 1] rfl) (hD.sub [0, 1] (by decide) rfl)
        exact trivial
      · exact absurd (by decide) c_19_4
  · have t_7_0 := c_7_0
    try simp only [kb_eq0, kb_ne0, lg_cmp_lt, lg_cmp_le, lg_cmp_gt, lg_cmp_ge, lg_cmp_eq] at t_7_0
    try simp only [Int32.lt_iff_toInt_lt, Int32.le_iff_toInt_le, ← Int32.toInt_inj, Int64.lt_iff_toInt_lt, Int64.le_iff_toInt_le, ← Int64.toInt_inj, Int32.toInt_toInt64, Int32.reduceToInt, Int64.reduceToInt] at t_7_0
    omega
set_option maxRecDepth 100000 in
set_option maxHeartbeats 4000000 in
theorem r_writeN_2 (l : Launch) (D : va_G) (cI cL cB cZ cT : ClassId) (sz : Nat) (m0 mH mI mJ mS mD mX mA mB mW mL : Nat) (n : Int32) (hn : 10 ≤ n.toInt ∧ n.toInt ≤ 99) : kM (S := Unit) l yX8_write wsX8_write ({ frames := 0, cells := 0, slots := 0, locals := 0 }) D (kT cI cL cB cZ cT) [.ref m0, .int n] [(m0, .inr (8, [.ref mH, .int 0, .long 0, .int 0, .long 0, .int 0, .int 0, .int 0, .int 0, .int 0, .int 0, .long 0, .int 0, .int 0, .ref mI, .ref mJ, .ref mS, .ref mD, .int 0, .int 0, .int 0, .long 0, .ref mX, .int 0, .int 0, .int 0, .ref mA, .ref mB, .ref mW, .ref mL, .int 0])), (mL, .inl (cB, 16, .inl (fun _ => 0)))] sz eV (fun _ _ => True) (fun _ => [(m0, .inr (8, [.ref mH, .int 0, .long 0, .int 0, .long 0, .int 0, .int 0, .int 0, .int 0, .int 0, .int 0, .long 0, .int 0, .int 0, .ref mI, .ref mJ, .ref mS, .ref mD, .int 0, .int 0, .int 0, .long 0, .ref mX, .int 0, .int 0, .int 0, .ref mA, .ref mB, .ref mW, .ref mL, .int 2])), (mL, .inl (cB, 16, .inl (upd (upd (fun _ => 0) (0 : Int32).toNatClampNeg (vp_nar .byte (48 + ((n / 10) - (n / 10) / 10 * 10)).toInt8.toInt32)) (1 : Int32).toNatClampNeg (vp_nar .byte (48 + ((n / 1) - (n / 1) / 10 * 10)).toInt8.toInt32))))]) 0 0 := by
  refine kStart (cc := cX8_write) (maxL := 3) (ret := none) (own := RX8) (by decide) rfl rfl (Nat.le_of_ble_eq_true rfl) ?_
  intro p e s m args below meth c A ls hx hb hr hml hown hts hlocks hnm hsz hA hG hP hD hS hl
  have hK := hG.1
  have hl : lv_has ls 3 [(0, .ref m0), (1, .int n)] := hl
  obtain ⟨hq1, hq2, hq3⟩ := k_div3 (n := n) (by omega)
  refine lv_iconst (v := 1) hx hb dX8_write_0 (by decide) ?_
  refine lv_istore_n (lv' := [(2, .int 1), (0, .ref m0), (1, .int n)]) hx hb dX8_write_1 rfl hl (by decide) rfl (fun ls hl => ?_)
  refine lv_iload_n hx hb dX8_write_2 rfl (lv_at hl 2 rfl) ?_
  refine lv_iload_n hx hb dX8_write_3 rfl (lv_at hl 0 rfl) ?_
  refine lv_idiv hx hb dX8_write_4 (by decide) ?_
  refine lv_bipush (v := 9) hx hb dX8_write_5 (by decide) ?_
  refine lv_icmp_le (tgt := 18) hx hb dX8_write_7 (by decide) (fun c_7_0 => ?_) (fun c_7_0 => ?_)
  · have t_7_0 := c_7_0
    try simp only [kb_eq0, kb_ne0, lg_cmp_lt, lg_cmp_le, lg_cmp_gt, lg_cmp_ge, lg_cmp_eq] at t_7_0
    try simp only [Int32.lt_iff_toInt_lt, Int32.le_iff_toInt_le, ← Int32.toInt_inj, Int64.lt_iff_toInt_lt, Int64.le_iff_toInt_le, ← Int64.toInt_inj, Int32.toInt_toInt64, Int32.reduceToInt, Int64.reduceToInt] at t_7_0
    omega
  · have t_7_0 := c_7_0
    try simp only [kb_eq0, kb_ne0, lg_cmp_lt, lg_cmp_le, lg_cmp_gt, lg_cmp_ge, lg_cmp_eq] at t_7_0
    try simp only [Int32.lt_iff_toInt_lt, Int32.le_iff_toInt_le, ← Int32.toInt_inj, Int64.lt_iff_toInt_lt, Int64.le_iff_toInt_le, ← Int64.toInt_inj, Int32.toInt_toInt64, Int32.reduceToInt, Int64.reduceToInt] at t_7_0
    refine lv_iload_n hx hb dX8_write_10 rfl (lv_at hl 0 rfl) ?_
    refine lv_bipush (v := 10) hx hb dX8_write_11 (by decide) ?_
    refine lv_imul hx hb dX8_write_13 ?_
    refine lv_topi (fun x_2 ex_2 => ?_)
    obtain rfl : x_2 = 10 := ex_2.trans (by decide)
    refine lv_istore_n (lv' := [(2, .int 10), (0, .ref m0), (1, .int n)]) hx hb dX8_write_14 rfl hl (by decide) rfl (fun ls hl => ?_)
    refine lv_goto (tgt := 2) hx hb dX8_write_15 (by decide) ?_
    refine lv_iload_n hx hb dX8_write_2 rfl (lv_at hl 2 rfl) ?_
    refine lv_iload_n hx hb dX8_write_3 rfl (lv_at hl 0 rfl) ?_
    refine lv_idiv hx hb dX8_write_4 (by decide) ?_
    refine lv_bipush (v := 9) hx hb dX8_write_5 (by decide) ?_
    refine lv_icmp_le (tgt := 18) hx hb dX8_write_7 (by decide) (fun c_7_2 => ?_) (fun c_7_2 => ?_)
    · have t_7_2 := c_7_2
      try simp only [kb_eq0, kb_ne0, lg_cmp_lt, lg_cmp_le, lg_cmp_gt, lg_cmp_ge, lg_cmp_eq] at t_7_2
      try simp only [Int32.lt_iff_toInt_lt, Int32.le_iff_toInt_le, ← Int32.toInt_inj, Int64.lt_iff_toInt_lt, Int64.le_iff_toInt_le, ← Int64.toInt_inj, Int32.toInt_toInt64, Int32.reduceToInt, Int64.reduceToInt] at t_7_2
      refine lv_iload_n hx hb dX8_write_18 rfl (lv_at hl 0 rfl) ?_
      refine lv_if_le (tgt := 59) hx hb dX8_write_19 (by decide) (fun c_19_3 => ?_) (fun c_19_3 => ?_)
      · exact absurd c_19_3 (by decide)
      · have t_19_3 := c_19_3
        try simp only [kb_eq0, kb_ne0, lg_cmp_lt, lg_cmp_le, lg_cmp_gt, lg_cmp_ge, lg_cmp_eq] at t_19_3
        try simp only [Int32.lt_iff_toInt_lt, Int32.le_iff_toInt_le, ← Int32.toInt_inj, Int64.lt_iff_toInt_lt, Int64.le_iff_toInt_le, ← Int64.toInt_inj, Int32.toInt_toInt64, Int32.reduceToInt, Int64.reduceToInt] at t_19_3
        refine lv_aload_n hx hb dX8_write_22 rfl (lv_at hl 1 rfl) ?_
        refine va_get (D := D) (ci := 8) (v := .ref mL) (C := RX8) (T := TX8) (N := 31) hx hb hts iX8_write_X8 hown hK hP 0 rfl rfl 29 (by decide) (hts (.fieldLink RX8 40 "TapeCalculatorModel" "line" "[B") (List.mem_of_getElem? (i := 1) rfl)) (fun _ h9 => h9) rfl dX8_write_23 ?_
        refine lv_aload_n hx hb dX8_write_26 rfl (lv_at hl 1 rfl) ?_
        refine va_get (D := D) (ci := 8) (v := .int 0) (C := RX8) (T := TX8) (N := 31) hx hb hts iX8_write_X8 hown hK hP 0 rfl rfl 30 (by decide) (hts (.fieldLink RX8 285 "TapeCalculatorModel" "lineSize" "I") (List.mem_of_getElem? (i := 2) rfl)) (fun _ h9 => h9) rfl dX8_write_27 ?_
        refine lv_bipush (v := 48) hx hb dX8_write_30 (by decide) ?_
        refine lv_iload_n hx hb dX8_write_32 rfl (lv_at hl 2 rfl) ?_
        refine lv_iload_n hx hb dX8_write_33 rfl (lv_at hl 0 rfl) ?_
        refine lv_idiv hx hb dX8_write_34 (by decide) ?_
        refine lv_bipush (v := 10) hx hb dX8_write_35 (by decide) ?_
        refine lv_irem hx hb dX8_write_37 (by decide) ?_
        refine lv_iadd hx hb dX8_write_38 ?_
        refine lv_i2b hx hb dX8_write_39 rfl ?_
        refine va_bast hx hb hK hP hD hS 1 2 rfl rfl (vp_in_iff.mpr (by decide)) dX8_write_40 (fun H locs hP hD hS => ?_)
        have hP : va_P D vwCl [(m0, .inr (8, [.ref mH, .int 0, .long 0, .int 0, .long 0, .int 0, .int 0, .int 0, .int 0, .int 0, .int 0, .long 0, .int 0, .int 0, .ref mI, .ref mJ, .ref mS, .ref mD, .int 0, .int 0, .int 0, .long 0, .ref mX, .int 0, .int 0, .int 0, .ref mA, .ref mB, .ref mW, .ref mL, .int 0])), (mL, .inl (cB, 16, .inl (upd (fun _ => 0) (0 : Int32).toNatClampNeg (vp_nar .byte (48 + ((n / 10) - (n / 10) / 10 * 10)).toInt8.toInt32))))] H := hP
        have hD : va_D A [(m0, .inr (8, [.ref mH, .int 0, .long 0, .int 0, .long 0, .int 0, .int 0, .int 0, .int 0, .int 0, .int 0, .long 0, .int 0, .int 0, .ref mI, .ref mJ, .ref mS, .ref mD, .int 0, .int 0, .int 0, .long 0, .ref mX, .int 0, .int 0, .int 0, .ref mA, .ref mB, .ref mW, .ref mL, .int 0])), (mL, .inl (cB, 16, .inl (upd (fun _ => 0) (0 : Int32).toNatClampNeg (vp_nar .byte (48 + ((n / 10) - (n / 10) / 10 * 10)).toInt8.toInt32))))] := hD
        refine lv_aload_n hx hb dX8_write_41 rfl (lv_at hl 1 rfl) ?_
        refine lv_dup hx hb dX8_write_42 rfl ?_
        refine va_get (D := D) (ci := 8) (v := .int 0) (C := RX8) (T := TX8) (N := 31) hx hb hts iX8_write_X8 hown hK hP 0 rfl rfl 30 (by decide) (hts (.fieldLink RX8 285 "TapeCalculatorModel" "lineSize" "I") (List.mem_of_getElem? (i := 2) rfl)) (fun _ h9 => h9) rfl dX8_write_43 ?_
        refine lv_iconst (v := 1) hx hb dX8_write_46 (by decide) ?_
        refine lv_iadd hx hb dX8_write_47 ?_
        refine lv_topi (fun x_5 ex_5 => ?_)
        obtain rfl : x_5 = 1 := ex_5.trans (by decide)
        refine va_put (D := D) (ci := 8) (v := .int 1) (ty := .int) (C := RX8) (T := TX8) (N := 31) hx hb hts iX8_write_X8 tyX8 tyX8_ok nmX8 hown hK hP hD hS 0 rfl rfl 30 (by decide) (hts (.fieldLink RX8 285 "TapeCalculatorModel" "lineSize" "I") (List.mem_of_getElem? (i := 2) rfl)) (fun _ h9 => h9) rfl (by decide +kernel) rfl rfl (Nat.le_of_ble_eq_true rfl) dX8_write_48 (fun H locs hP hD hS => ?_)
        have hP : va_P D vwCl [(m0, .inr (8, [.ref mH, .int 0, .long 0, .int 0, .long 0, .int 0, .int 0, .int 0, .int 0, .int 0, .int 0, .long 0, .int 0, .int 0, .ref mI, .ref mJ, .ref mS, .ref mD, .int 0, .int 0, .int 0, .long 0, .ref mX, .int 0, .int 0, .int 0, .ref mA, .ref mB, .ref mW, .ref mL, .int 1])), (mL, .inl (cB, 16, .inl (upd (fun _ => 0) (0 : Int32).toNatClampNeg (vp_nar .byte (48 + ((n / 10) - (n / 10) / 10 * 10)).toInt8.toInt32))))] H := hP
        have hD : va_D A [(m0, .inr (8, [.ref mH, .int 0, .long 0, .int 0, .long 0, .int 0, .int 0, .int 0, .int 0, .int 0, .int 0, .long 0, .int 0, .int 0, .ref mI, .ref mJ, .ref mS, .ref mD, .int 0, .int 0, .int 0, .long 0, .ref mX, .int 0, .int 0, .int 0, .ref mA, .ref mB, .ref mW, .ref mL, .int 1])), (mL, .inl (cB, 16, .inl (upd (fun _ => 0) (0 : Int32).toNatClampNeg (vp_nar .byte (48 + ((n / 10) - (n / 10) / 10 * 10)).toInt8.toInt32))))] := hD
        refine lv_iload_n hx hb dX8_write_51 rfl (lv_at hl 0 rfl) ?_
        refine lv_bipush (v := 10) hx hb dX8_write_52 (by decide) ?_
        refine lv_idiv hx hb dX8_write_54 (by decide) ?_
        refine lv_topi (fun x_6 ex_6 => ?_)
        obtain rfl : x_6 = 1 := ex_6.trans (by decide)
        refine lv_istore_n (lv' := [(2, .int 1), (0, .ref m0), (1, .int n)]) hx hb dX8_write_55 rfl hl (by decide) rfl (fun ls hl => ?_)
        refine lv_goto (tgt := 18) hx hb dX8_write_56 (by decide) ?_
        refine lv_iload_n hx hb dX8_write_18 rfl (lv_at hl 0 rfl) ?_
        refine lv_if_le (tgt := 59) hx hb dX8_write_19 (by decide) (fun c_19_6 => ?_) (fun c_19_6 => ?_)
        · exact absurd c_19_6 (by decide)
        · have t_19_6 := c_19_6
          try simp only [kb_eq0, kb_ne0, lg_cmp_lt, lg_cmp_le, lg_cmp_gt, lg_cmp_ge, lg_cmp_eq] at t_19_6
          try simp only [Int32.lt_iff_toInt_lt, Int32.le_iff_toInt_le, ← Int32.toInt_inj, Int64.lt_iff_toInt_lt, Int64.le_iff_toInt_le, ← Int64.toInt_inj, Int32.toInt_toInt64, Int32.reduceToInt, Int64.reduceToInt] at t_19_6
          refine lv_aload_n hx hb dX8_write_22 rfl (lv_at hl 1 rfl) ?_
          refine va_get (D := D) (ci := 8) (v := .ref mL) (C := RX8) (T := TX8) (N := 31) hx hb hts iX8_write_X8 hown hK hP 0 rfl rfl 29 (by decide) (hts (.fieldLink RX8 40 "TapeCalculatorModel" "line" "[B") (List.mem_of_getElem? (i := 1) rfl)) (fun _ h9 => h9) rfl dX8_write_23 ?_
          refine lv_aload_n hx hb dX8_write_26 rfl (lv_at hl 1 rfl) ?_
          refine va_get (D := D) (ci := 8) (v := .int 1) (C := RX8) (T := TX8) (N := 31) hx hb hts iX8_write_X8 hown hK hP 0 rfl rfl 30 (by decide) (hts (.fieldLink RX8 285 "TapeCalculatorModel" "lineSize" "I") (List.mem_of_getElem? (i := 2) rfl)) (fun _ h9 => h9) rfl dX8_write_27 ?_
          refine lv_bipush (v := 48) hx hb dX8_write_30 (by decide) ?_
          refine lv_iload_n hx hb dX8_write_32 rfl (lv_at hl 2 rfl) ?_
          refine lv_iload_n hx hb dX8_write_33 rfl (lv_at hl 0 rfl) ?_
          refine lv_idiv hx hb dX8_write_34 (by decide) ?_
          refine lv_bipush (v := 10) hx hb dX8_write_35 (by decide) ?_
          refine lv_irem hx hb dX8_write_37 (by decide) ?_
          refine lv_iadd hx hb dX8_write_38 ?_
          refine lv_i2b hx hb dX8_write_39 rfl ?_
          refine va_bast hx hb hK hP hD hS 1 2 rfl rfl (vp_in_iff.mpr (by decide)) dX8_write_40 (fun H locs hP hD hS => ?_)
          have hP : va_P D vwCl [(m0, .inr (8, [.ref mH, .int 0, .long 0, .int 0, .long 0, .int 0, .int 0, .int 0, .int 0, .int 0, .int 0, .long 0, .int 0, .int 0, .ref mI, .ref mJ, .ref mS, .ref mD, .int 0, .int 0, .int 0, .long 0, .ref mX, .int 0, .int 0, .int 0, .ref mA, .ref mB, .ref mW, .ref mL, .int 1])), (mL, .inl (cB, 16, .inl (upd (upd (fun _ => 0) (0 : Int32).toNatClampNeg (vp_nar .byte (48 + ((n / 10) - (n / 10) / 10 * 10)).toInt8.toInt32)) (1 : Int32).toNatClampNeg (vp_nar .byte (48 + ((n / 1) - (n / 1) / 10 * 10)).toInt8.toInt32))))] H := hP
          have hD : va_D A [(m0, .inr (8, [.ref mH, .int 0, .long 0, .int 0, .long 0, .int 0, .int 0, .int 0, .int 0, .int 0, .int 0, .long 0, .int 0, .int 0, .ref mI, .ref mJ, .ref mS, .ref mD, .int 0, .int 0, .int 0, .long 0, .ref mX, .int 0, .int 0, .int 0, .ref mA, .ref mB, .ref mW, .ref mL, .int 1])), (mL, .inl (cB, 16, .inl (upd (upd (fun _ => 0) (0 : Int32).toNatClampNeg (vp_nar .byte (48 + ((n / 10) - (n / 10) / 10 * 10)).toInt8.toInt32)) (1 : Int32).toNatClampNeg (vp_nar .byte (48 + ((n / 1) - (n / 1) / 10 * 10)).toInt8.toInt32))))] := hD
          refine lv_aload_n hx hb dX8_write_41 rfl (lv_at hl 1 rfl) ?_
          refine lv_dup hx hb dX8_write_42 rfl ?_
          refine va_get (D := D) (ci := 8) (v := .int 1) (C := RX8) (T := TX8) (N := 31) hx hb hts iX8_write_X8 hown hK hP 0 rfl rfl 30 (by decide) (hts (.fieldLink RX8 285 "TapeCalculatorModel" "lineSize" "I") (List.mem_of_getElem? (i := 2) rfl)) (fun _ h9 => h9) rfl dX8_write_43 ?_
          refine lv_iconst (v := 1) hx hb dX8_write_46 (by decide) ?_
          refine lv_iadd hx hb dX8_write_47 ?_
          refine lv_topi (fun x_8 ex_8 => ?_)
          obtain rfl : x_8 = 2 := ex_8.trans (by decide)
          refine va_put (D := D) (ci := 8) (v := .int 2) (ty := .int) (C := RX8) (T := TX8) (N := 31) hx hb hts iX8_write_X8 tyX8 tyX8_ok nmX8 hown hK hP hD hS 0 rfl rfl 30 (by decide) (hts (.fieldLink RX8 285 "TapeCalculatorModel" "lineSize" "I") (List.mem_of_getElem? (i := 2) rfl)) (fun _ h9 => h9) rfl (by decide +kernel) rfl rfl (Nat.le_of_ble_eq_true rfl) dX8_write_48 (fun H locs hP hD hS => ?_)
          have hP : va_P D vwCl [(m0, .inr (8, [.ref mH, .int 0, .long 0, .int 0, .long 0, .int 0, .int 0, .int 0, .int 0, .int 0, .int 0, .long 0, .int 0, .int 0, .ref mI, .ref mJ, .ref mS, .ref mD, .int 0, .int 0, .int 0, .long 0, .ref mX, .int 0, .int 0, .int 0, .ref mA, .ref mB, .ref mW, .ref mL, .int 2])), (mL, .inl (cB, 16, .inl (upd (upd (fun _ => 0) (0 : Int32).toNatClampNeg (vp_nar .byte (48 + ((n / 10) - (n / 10) / 10 * 10)).toInt8.toInt32)) (1 : Int32).toNatClampNeg (vp_nar .byte (48 + ((n / 1) - (n / 1) / 10 * 10)).toInt8.toInt32))))] H := hP
          have hD : va_D A [(m0, .inr (8, [.ref mH, .int 0, .long 0, .int 0, .long 0, .int 0, .int 0, .int 0, .int 0, .int 0, .int 0, .long 0, .int 0, .int 0, .ref mI, .ref mJ, .ref mS, .ref mD, .int 0, .int 0, .int 0, .long 0, .ref mX, .int 0, .int 0, .int 0, .ref mA, .ref mB, .ref mW, .ref mL, .int 2])), (mL, .inl (cB, 16, .inl (upd (upd (fun _ => 0) (0 : Int32).toNatClampNeg (vp_nar .byte (48 + ((n / 10) - (n / 10) / 10 * 10)).toInt8.toInt32)) (1 : Int32).toNatClampNeg (vp_nar .byte (48 + ((n / 1) - (n / 1) / 10 * 10)).toInt8.toInt32))))] := hD
          refine lv_iload_n hx hb dX8_write_51 rfl (lv_at hl 0 rfl) ?_
          refine lv_bipush (v := 10) hx hb dX8_write_52 (by decide) ?_
          refine lv_idiv hx hb dX8_write_54 (by decide) ?_
          refine lv_topi (fun x_9 ex_9 => ?_)
          obtain rfl : x_9 = 0 := ex_9.trans (by decide)
          refine lv_istore_n (lv' := [(2, .int 0), (0, .ref m0), (1, .int n)]) hx hb dX8_write_55 rfl hl (by decide) rfl (fun ls hl => ?_)
          refine lv_goto (tgt := 18) hx hb dX8_write_56 (by decide) ?_
          refine lv_iload_n hx hb dX8_write_18 rfl (lv_at hl 0 rfl) ?_
          refine lv_if_le (tgt := 59) hx hb dX8_write_19 (by decide) (fun c_19_9 => ?_) (fun c_19_9 => ?_)
          · have t_19_9 := c_19_9
            try simp only [kb_eq0, kb_ne0, lg_cmp_lt, lg_cmp_le, lg_cmp_gt, lg_cmp_ge, lg_cmp_eq] at t_19_9
            try simp only [Int32.lt_iff_toInt_lt, Int32.le_iff_toInt_le, ← Int32.toInt_inj, Int64.lt_iff_toInt_lt, Int64.le_iff_toInt_le, ← Int64.toInt_inj, Int32.toInt_toInt64, Int32.reduceToInt, Int64.reduceToInt] at t_19_9
            refine kVret (u := ()) hx hb hr hlocks hS dX8_write_59 ?_ (hP.sub [0, 1] rfl) (hD.sub [0, 1] (by decide) rfl)
            exact trivial
          · exact absurd (by decide) c_19_9
    · have t_7_2 := c_7_2
      try simp only [kb_eq0, kb_ne0, lg_cmp_lt, lg_cmp_le, lg_cmp_gt, lg_cmp_ge, lg_cmp_eq] at t_7_2
      try simp only [Int32.lt_iff_toInt_lt, Int32.le_iff_toInt_le, ← Int32.toInt_inj, Int64.lt_iff_toInt_lt, Int64.le_iff_toInt_le, ← Int64.toInt_inj, Int32.toInt_toInt64, Int32.reduceToInt, Int64.reduceToInt] at t_7_2
      omega
set_option maxRecDepth 100000 in
set_option maxHeartbeats 4000000 in
theorem r_writeN_3 (l : Launch) (D : va_G) (cI cL cB cZ cT : ClassId) (sz : Nat) (m0 mH mI mJ mS mD mX mA mB mW mL : Nat) (n : Int32) (hn : 100 ≤ n.toInt ∧ n.toInt ≤ 511) : kM (S := Unit) l yX8_write wsX8_write ({ frames := 0, cells := 0, slots := 0, locals := 0 }) D (kT cI cL cB cZ cT) [.ref m0, .int n] [(m0, .inr (8, [.ref mH, .int 0, .long 0, .int 0, .long 0, .int 0, .int 0, .int 0, .int 0, .int 0, .int 0, .long 0, .int 0, .int 0, .ref mI, .ref mJ, .ref mS, .ref mD, .int 0, .int 0, .int 0, .long 0, .ref mX, .int 0, .int 0, .int 0, .ref mA, .ref mB, .ref mW, .ref mL, .int 0])), (mL, .inl (cB, 16, .inl (fun _ => 0)))] sz eV (fun _ _ => True) (fun _ => [(m0, .inr (8, [.ref mH, .int 0, .long 0, .int 0, .long 0, .int 0, .int 0, .int 0, .int 0, .int 0, .int 0, .long 0, .int 0, .int 0, .ref mI, .ref mJ, .ref mS, .ref mD, .int 0, .int 0, .int 0, .long 0, .ref mX, .int 0, .int 0, .int 0, .ref mA, .ref mB, .ref mW, .ref mL, .int 3])), (mL, .inl (cB, 16, .inl (upd (upd (upd (fun _ => 0) (0 : Int32).toNatClampNeg (vp_nar .byte (48 + ((n / 100) - (n / 100) / 10 * 10)).toInt8.toInt32)) (1 : Int32).toNatClampNeg (vp_nar .byte (48 + ((n / 10) - (n / 10) / 10 * 10)).toInt8.toInt32)) (2 : Int32).toNatClampNeg (vp_nar .byte (48 + ((n / 1) - (n / 1) / 10 * 10)).toInt8.toInt32))))]) 0 0 := by
  refine kStart (cc := cX8_write) (maxL := 3) (ret := none) (own := RX8) (by decide) rfl rfl (Nat.le_of_ble_eq_true rfl) ?_
  intro p e s m args below meth c A ls hx hb hr hml hown hts hlocks hnm hsz hA hG hP hD hS hl
  have hK := hG.1
  have hl : lv_has ls 3 [(0, .ref m0), (1, .int n)] := hl
  obtain ⟨hq1, hq2, hq3⟩ := k_div3 (n := n) (by omega)
  refine lv_iconst (v := 1) hx hb dX8_write_0 (by decide) ?_
  refine lv_istore_n (lv' := [(2, .int 1), (0, .ref m0), (1, .int n)]) hx hb dX8_write_1 rfl hl (by decide) rfl (fun ls hl => ?_)
  refine lv_iload_n hx hb dX8_write_2 rfl (lv_at hl 2 rfl) ?_
  refine lv_iload_n hx hb dX8_write_3 rfl (lv_at hl 0 rfl) ?_
  refine lv_idiv hx hb dX8_write_4 (by decide) ?_
  refine lv_bipush (v := 9) hx hb dX8_write_5 (by decide) ?_
  refine lv_icmp_le (tgt := 18) hx hb dX8_write_7 (by decide) (fun c_7_0 => ?_) (fun c_7_0 => ?_)
  · have t_7_0 := c_7_0
    try simp only [kb_eq0, kb_ne0, lg_cmp_lt, lg_cmp_le, lg_cmp_gt, lg_cmp_ge, lg_cmp_eq] at t_7_0
    try simp only [Int32.lt_iff_toInt_lt, Int32.le_iff_toInt_le, ← Int32.toInt_inj, Int64.lt_iff_toInt_lt, Int64.le_iff_toInt_le, ← Int64.toInt_inj, Int32.toInt_toInt64, Int32.reduceToInt, Int64.reduceToInt] at t_7_0
    omega
  · have t_7_0 := c_7_0
    try simp only [kb_eq0, kb_ne0, lg_cmp_lt, lg_cmp_le, lg_cmp_gt, lg_cmp_ge, lg_cmp_eq] at t_7_0
    try simp only [Int32.lt_iff_toInt_lt, Int32.le_iff_toInt_le, ← Int32.toInt_inj, Int64.lt_iff_toInt_lt, Int64.le_iff_toInt_le, ← Int64.toInt_inj, Int32.toInt_toInt64, Int32.reduceToInt, Int64.reduceToInt] at t_7_0
    refine lv_iload_n hx hb dX8_write_10 rfl (lv_at hl 0 rfl) ?_
    refine lv_bipush (v := 10) hx hb dX8_write_11 (by decide) ?_
    refine lv_imul hx hb dX8_write_13 ?_
    refine lv_topi (fun x_2 ex_2 => ?_)
    obtain rfl : x_2 = 10 := ex_2.trans (by decide)
    refine lv_istore_n (lv' := [(2, .int 10), (0, .ref m0), (1, .int n)]) hx hb dX8_write_14 rfl hl (by decide) rfl (fun ls hl => ?_)
    refine lv_goto (tgt := 2) hx hb dX8_write_15 (by decide) ?_
    refine lv_iload_n hx hb dX8_write_2 rfl (lv_at hl 2 rfl) ?_
    refine lv_iload_n hx hb dX8_write_3 rfl (lv_at hl 0 rfl) ?_
    refine lv_idiv hx hb dX8_write_4 (by decide) ?_
    refine lv_bipush (v := 9) hx hb dX8_write_5 (by decide) ?_
    refine lv_icmp_le (tgt := 18) hx hb dX8_write_7 (by decide) (fun c_7_2 => ?_) (fun c_7_2 => ?_)
    · have t_7_2 := c_7_2
      try simp only [kb_eq0, kb_ne0, lg_cmp_lt, lg_cmp_le, lg_cmp_gt, lg_cmp_ge, lg_cmp_eq] at t_7_2
      try simp only [Int32.lt_iff_toInt_lt, Int32.le_iff_toInt_le, ← Int32.toInt_inj, Int64.lt_iff_toInt_lt, Int64.le_iff_toInt_le, ← Int64.toInt_inj, Int32.toInt_toInt64, Int32.reduceToInt, Int64.reduceToInt] at t_7_2
      omega
    · have t_7_2 := c_7_2
      try simp only [kb_eq0, kb_ne0, lg_cmp_lt, lg_cmp_le, lg_cmp_gt, lg_cmp_ge, lg_cmp_eq] at t_7_2
      try simp only [Int32.lt_iff_toInt_lt, Int32.le_iff_toInt_le, ← Int32.toInt_inj, Int64.lt_iff_toInt_lt, Int64.le_iff_toInt_le, ← Int64.toInt_inj, Int32.toInt_toInt64, Int32.reduceToInt, Int64.reduceToInt] at t_7_2
      refine lv_iload_n hx hb dX8_write_10 rfl (lv_at hl 0 rfl) ?_
      refine lv_bipush (v := 10) hx hb dX8_write_11 (by decide) ?_
      refine lv_imul hx hb dX8_write_13 ?_
      refine lv_topi (fun x_4 ex_4 => ?_)
      obtain rfl : x_4 = 100 := ex_4.trans (by decide)
      refine lv_istore_n (lv' := [(2, .int 100), (0, .ref m0), (1, .int n)]) hx hb dX8_write_14 rfl hl (by decide) rfl (fun ls hl => ?_)
      refine lv_goto (tgt := 2) hx hb dX8_write_15 (by decide) ?_
      refine lv_iload_n hx hb dX8_write_2 rfl (lv_at hl 2 rfl) ?_
      refine lv_iload_n hx hb dX8_write_3 rfl (lv_at hl 0 rfl) ?_
      refine lv_idiv hx hb dX8_write_4 (by decide) ?_
      refine lv_bipush (v := 9) hx hb dX8_write_5 (by decide) ?_
      refine lv_icmp_le (tgt := 18) hx hb dX8_write_7 (by decide) (fun c_7_4 => ?_) (fun c_7_4 => ?_)
      · have t_7_4 := c_7_4
        try simp only [kb_eq0, kb_ne0, lg_cmp_lt, lg_cmp_le, lg_cmp_gt, lg_cmp_ge, lg_cmp_eq] at t_7_4
        try simp only [Int32.lt_iff_toInt_lt, Int32.le_iff_toInt_le, ← Int32.toInt_inj, Int64.lt_iff_toInt_lt, Int64.le_iff_toInt_le, ← Int64.toInt_inj, Int32.toInt_toInt64, Int32.reduceToInt, Int64.reduceToInt] at t_7_4
        refine lv_iload_n hx hb dX8_write_18 rfl (lv_at hl 0 rfl) ?_
        refine lv_if_le (tgt := 59) hx hb dX8_write_19 (by decide) (fun c_19_5 => ?_) (fun c_19_5 => ?_)
        · exact absurd c_19_5 (by decide)
        · have t_19_5 := c_19_5
          try simp only [kb_eq0, kb_ne0, lg_cmp_lt, lg_cmp_le, lg_cmp_gt, lg_cmp_ge, lg_cmp_eq] at t_19_5
          try simp only [Int32.lt_iff_toInt_lt, Int32.le_iff_toInt_le, ← Int32.toInt_inj, Int64.lt_iff_toInt_lt, Int64.le_iff_toInt_le, ← Int64.toInt_inj, Int32.toInt_toInt64, Int32.reduceToInt, Int64.reduceToInt] at t_19_5
          refine lv_aload_n hx hb dX8_write_22 rfl (lv_at hl 1 rfl) ?_
          refine va_get (D := D) (ci := 8) (v := .ref mL) (C := RX8) (T := TX8) (N := 31) hx hb hts iX8_write_X8 hown hK hP 0 rfl rfl 29 (by decide) (hts (.fieldLink RX8 40 "TapeCalculatorModel" "line" "[B") (List.mem_of_getElem? (i := 1) rfl)) (fun _ h9 => h9) rfl dX8_write_23 ?_
          refine lv_aload_n hx hb dX8_write_26 rfl (lv_at hl 1 rfl) ?_
          refine va_get (D := D) (ci := 8) (v := .int 0) (C := RX8) (T := TX8) (N := 31) hx hb hts iX8_write_X8 hown hK hP 0 rfl rfl 30 (by decide) (hts (.fieldLink RX8 285 "TapeCalculatorModel" "lineSize" "I") (List.mem_of_getElem? (i := 2) rfl)) (fun _ h9 => h9) rfl dX8_write_27 ?_
          refine lv_bipush (v := 48) hx hb dX8_write_30 (by decide) ?_
          refine lv_iload_n hx hb dX8_write_32 rfl (lv_at hl 2 rfl) ?_
          refine lv_iload_n hx hb dX8_write_33 rfl (lv_at hl 0 rfl) ?_
          refine lv_idiv hx hb dX8_write_34 (by decide) ?_
          refine lv_bipush (v := 10) hx hb dX8_write_35 (by decide) ?_
          refine lv_irem hx hb dX8_write_37 (by decide) ?_
          refine lv_iadd hx hb dX8_write_38 ?_
          refine lv_i2b hx hb dX8_write_39 rfl ?_
          refine va_bast hx hb hK hP hD hS 1 2 rfl rfl (vp_in_iff.mpr (by decide)) dX8_write_40 (fun H locs hP hD hS => ?_)
          have hP : va_P D vwCl [(m0, .inr (8, [.ref mH, .int 0, .long 0, .int 0, .long 0, .int 0, .int 0, .int 0, .int 0, .int 0, .int 0, .long 0, .int 0, .int 0, .ref mI, .ref mJ, .ref mS, .ref mD, .int 0, .int 0, .int 0, .long 0, .ref mX, .int 0, .int 0, .int 0, .ref mA, .ref mB, .ref mW, .ref mL, .int 0])), (mL, .inl (cB, 16, .inl (upd (fun _ => 0) (0 : Int32).toNatClampNeg (vp_nar .byte (48 + ((n / 100) - (n / 100) / 10 * 10)).toInt8.toInt32))))] H := hP
          have hD : va_D A [(m0, .inr (8, [.ref mH, .int 0, .long 0, .int 0, .long 0, .int 0, .int 0, .int 0, .int 0, .int 0, .int 0, .long 0, .int 0, .int 0, .ref mI, .ref mJ, .ref mS, .ref mD, .int 0, .int 0, .int 0, .long 0, .ref mX, .int 0, .int 0, .int 0, .ref mA, .ref mB, .ref mW, .ref mL, .int 0])), (mL, .inl (cB, 16, .inl (upd (fun _ => 0) (0 : Int32).toNatClampNeg (vp_nar .byte (48 + ((n / 100) - (n / 100) / 10 * 10)).toInt8.toInt32))))] := hD
          refine lv_aload_n hx hb dX8_write_41 rfl (lv_at hl 1 rfl) ?_
          refine lv_dup hx hb dX8_write_42 rfl ?_
          refine va_get (D := D) (ci := 8) (v := .int 0) (C := RX8) (T := TX8) (N := 31) hx hb hts iX8_write_X8 hown hK hP 0 rfl rfl 30 (by decide) (hts (.fieldLink RX8 285 "TapeCalculatorModel" "lineSize" "I") (List.mem_of_getElem? (i := 2) rfl)) (fun _ h9 => h9) rfl dX8_write_43 ?_
          refine lv_iconst (v := 1) hx hb dX8_write_46 (by decide) ?_
          refine lv_iadd hx hb dX8_write_47 ?_
          refine lv_topi (fun x_7 ex_7 => ?_)
          obtain rfl : x_7 = 1 := ex_7.trans (by decide)
          refine va_put (D := D) (ci := 8) (v := .int 1) (ty := .int) (C := RX8) (T := TX8) (N := 31) hx hb hts iX8_write_X8 tyX8 tyX8_ok nmX8 hown hK hP hD hS 0 rfl rfl 30 (by decide) (hts (.fieldLink RX8 285 "TapeCalculatorModel" "lineSize" "I") (List.mem_of_getElem? (i := 2) rfl)) (fun _ h9 => h9) rfl (by decide +kernel) rfl rfl (Nat.le_of_ble_eq_true rfl) dX8_write_48 (fun H locs hP hD hS => ?_)
          have hP : va_P D vwCl [(m0, .inr (8, [.ref mH, .int 0, .long 0, .int 0, .long 0, .int 0, .int 0, .int 0, .int 0, .int 0, .int 0, .long 0, .int 0, .int 0, .ref mI, .ref mJ, .ref mS, .ref mD, .int 0, .int 0, .int 0, .long 0, .ref mX, .int 0, .int 0, .int 0, .ref mA, .ref mB, .ref mW, .ref mL, .int 1])), (mL, .inl (cB, 16, .inl (upd (fun _ => 0) (0 : Int32).toNatClampNeg (vp_nar .byte (48 + ((n / 100) - (n / 100) / 10 * 10)).toInt8.toInt32))))] H := hP
          have hD : va_D A [(m0, .inr (8, [.ref mH, .int 0, .long 0, .int 0, .long 0, .int 0, .int 0, .int 0, .int 0, .int 0, .int 0, .long 0, .int 0, .int 0, .ref mI, .ref mJ, .ref mS, .ref mD, .int 0, .int 0, .int 0, .long 0, .ref mX, .int 0, .int 0, .int 0, .ref mA, .ref mB, .ref mW, .ref mL, .int 1])), (mL, .inl (cB, 16, .inl (upd (fun _ => 0) (0 : Int32).toNatClampNeg (vp_nar .byte (48 + ((n / 100) - (n / 100) / 10 * 10)).toInt8.toInt32))))] := hD
          refine lv_iload_n hx hb dX8_write_51 rfl (lv_at hl 0 rfl) ?_
          refine lv_bipush (v := 10) hx hb dX8_write_52 (by decide) ?_
          refine lv_idiv hx hb dX8_write_54 (by decide) ?_
          refine lv_topi (fun x_8 ex_8 => ?_)
          obtain rfl : x_8 = 10 := ex_8.trans (by decide)
          refine lv_istore_n (lv' := [(2, .int 10), (0, .ref m0), (1, .int n)]) hx hb dX8_write_55 rfl hl (by decide) rfl (fun ls hl => ?_)
          refine lv_goto (tgt := 18) hx hb dX8_write_56 (by decide) ?_
          refine lv_iload_n hx hb dX8_write_18 rfl (lv_at hl 0 rfl) ?_
          refine lv_if_le (tgt := 59) hx hb dX8_write_19 (by decide) (fun c_19_8 => ?_) (fun c_19_8 => ?_)
          · exact absurd c_19_8 (by decide)
          · have t_19_8 := c_19_8
            try simp only [kb_eq0, kb_ne0, lg_cmp_lt, lg_cmp_le, lg_cmp_gt, lg_cmp_ge, lg_cmp_eq] at t_19_8
            try simp only [Int32.lt_iff_toInt_lt, Int32.le_iff_toInt_le, ← Int32.toInt_inj, Int64.lt_iff_toInt_lt, Int64.le_iff_toInt_le, ← Int64.toInt_inj, Int32.toInt_toInt64, Int32.reduceToInt, Int64.reduceToInt] at t_19_8
            refine lv_aload_n hx hb dX8_write_22 rfl (lv_at hl 1 rfl) ?_
            refine va_get (D := D) (ci := 8) (v := .ref mL) (C := RX8) (T := TX8) (N := 31) hx hb hts iX8_write_X8 hown hK hP 0 rfl rfl 29 (by decide) (hts (.fieldLink RX8 40 "TapeCalculatorModel" "line" "[B") (List.mem_of_getElem? (i := 1) rfl)) (fun _ h9 => h9) rfl dX8_write_23 ?_
            refine lv_aload_n hx hb dX8_write_26 rfl (lv_at hl 1 rfl) ?_
            refine va_get (D := D) (ci := 8) (v := .int 1) (C := RX8) (T := TX8) (N := 31) hx hb hts iX8_write_X8 hown hK hP 0 rfl rfl 30 (by decide) (hts (.fieldLink RX8 285 "TapeCalculatorModel" "lineSize" "I") (List.mem_of_getElem? (i := 2) rfl)) (fun _ h9 => h9) rfl dX8_write_27 ?_
            refine lv_bipush (v := 48) hx hb dX8_write_30 (by decide) ?_
            refine lv_iload_n hx hb dX8_write_32 rfl (lv_at hl 2 rfl) ?_
            refine lv_iload_n hx hb dX8_write_33 rfl (lv_at hl 0 rfl) ?_
            refine lv_idiv hx hb dX8_write_34 (by decide) ?_
            refine lv_bipush (v := 10) hx hb dX8_write_35 (by decide) ?_
            refine lv_irem hx hb dX8_write_37 (by decide) ?_
            refine lv_iadd hx hb dX8_write_38 ?_
            refine lv_i2b hx hb dX8_write_39 rfl ?_
            refine va_bast hx hb hK hP hD hS 1 2 rfl rfl (vp_in_iff.mpr (by decide)) dX8_write_40 (fun H locs hP hD hS => ?_)
            have hP : va_P D vwCl [(m0, .inr (8, [.ref mH, .int 0, .long 0, .int 0, .long 0, .int 0, .int 0, .int 0, .int 0, .int 0, .int 0, .long 0, .int 0, .int 0, .ref mI, .ref mJ, .ref mS, .ref mD, .int 0, .int 0, .int 0, .long 0, .ref mX, .int 0, .int 0, .int 0, .ref mA, .ref mB, .ref mW, .ref mL, .int 1])), (mL, .inl (cB, 16, .inl (upd (upd (fun _ => 0) (0 : Int32).toNatClampNeg (vp_nar .byte (48 + ((n / 100) - (n / 100) / 10 * 10)).toInt8.toInt32)) (1 : Int32).toNatClampNeg (vp_nar .byte (48 + ((n / 10) - (n / 10) / 10 * 10)).toInt8.toInt32))))] H := hP
            have hD : va_D A [(m0, .inr (8, [.ref mH, .int 0, .long 0, .int 0, .long 0, .int 0, .int 0, .int 0, .int 0, .int 0, .int 0, .long 0, .int 0, .int 0, .ref mI, .ref mJ, .ref mS, .ref mD, .int 0, .int 0, .int 0, .long 0, .ref mX, .int 0, .int 0, .int 0, .ref mA, .ref mB, .ref mW, .ref mL, .int 1])), (mL, .inl (cB, 16, .inl (upd (upd (fun _ => 0) (0 : Int32).toNatClampNeg (vp_nar .byte (48 + ((n / 100) - (n / 100) / 10 * 10)).toInt8.toInt32)) (1 : Int32).toNatClampNeg (vp_nar .byte (48 + ((n / 10) - (n / 10) / 10 * 10)).toInt8.toInt32))))] := hD
            refine lv_aload_n hx hb dX8_write_41 rfl (lv_at hl 1 rfl) ?_
            refine lv_dup hx hb dX8_write_42 rfl ?_
            refine va_get (D := D) (ci := 8) (v := .int 1) (C := RX8) (T := TX8) (N := 31) hx hb hts iX8_write_X8 hown hK hP 0 rfl rfl 30 (by decide) (hts (.fieldLink RX8 285 "TapeCalculatorModel" "lineSize" "I") (List.mem_of_getElem? (i := 2) rfl)) (fun _ h9 => h9) rfl dX8_write_43 ?_
            refine lv_iconst (v := 1) hx hb dX8_write_46 (by decide) ?_
            refine lv_iadd hx hb dX8_write_47 ?_
            refine lv_topi (fun x_10 ex_10 => ?_)
            obtain rfl : x_10 = 2 := ex_10.trans (by decide)
            refine va_put (D := D) (ci := 8) (v := .int 2) (ty := .int) (C := RX8) (T := TX8) (N := 31) hx hb hts iX8_write_X8 tyX8 tyX8_ok nmX8 hown hK hP hD hS 0 rfl rfl 30 (by decide) (hts (.fieldLink RX8 285 "TapeCalculatorModel" "lineSize" "I") (List.mem_of_getElem? (i := 2) rfl)) (fun _ h9 => h9) rfl (by decide +kernel) rfl rfl (Nat.le_of_ble_eq_true rfl) dX8_write_48 (fun H locs hP hD hS => ?_)
            have hP : va_P D vwCl [(m0, .inr (8, [.ref mH, .int 0, .long 0, .int 0, .long 0, .int 0, .int 0, .int 0, .int 0, .int 0, .int 0, .long 0, .int 0, .int 0, .ref mI, .ref mJ, .ref mS, .ref mD, .int 0, .int 0, .int 0, .long 0, .ref mX, .int 0, .int 0, .int 0, .ref mA, .ref mB, .ref mW, .ref mL, .int 2])), (mL, .inl (cB, 16, .inl (upd (upd (fun _ => 0) (0 : Int32).toNatClampNeg (vp_nar .byte (48 + ((n / 100) - (n / 100) / 10 * 10)).toInt8.toInt32)) (1 : Int32).toNatClampNeg (vp_nar .byte (48 + ((n / 10) - (n / 10) / 10 * 10)).toInt8.toInt32))))] H := hP
            have hD : va_D A [(m0, .inr (8, [.ref mH, .int 0, .long 0, .int 0, .long 0, .int 0, .int 0, .int 0, .int 0, .int 0, .int 0, .long 0, .int 0, .int 0, .ref mI, .ref mJ, .ref mS, .ref mD, .int 0, .int 0, .int 0, .long 0, .ref mX, .int 0, .int 0, .int 0, .ref mA, .ref mB, .ref mW, .ref mL, .int 2])), (mL, .inl (cB, 16, .inl (upd (upd (fun _ => 0) (0 : Int32).toNatClampNeg (vp_nar .byte (48 + ((n / 100) - (n / 100) / 10 * 10)).toInt8.toInt32)) (1 : Int32).toNatClampNeg (vp_nar .byte (48 + ((n / 10) - (n / 10) / 10 * 10)).toInt8.toInt32))))] := hD
            refine lv_iload_n hx hb dX8_write_51 rfl (lv_at hl 0 rfl) ?_
            refine lv_bipush (v := 10) hx hb dX8_write_52 (by decide) ?_
            refine lv_idiv hx hb dX8_write_54 (by decide) ?_
            refine lv_topi (fun x_11 ex_11 => ?_)
            obtain rfl : x_11 = 1 := ex_11.trans (by decide)
            refine lv_istore_n (lv' := [(2, .int 1), (0, .ref m0), (1, .int n)]) hx hb dX8_write_55 rfl hl (by decide) rfl (fun ls hl => ?_)
            refine lv_goto (tgt := 18) hx hb dX8_write_56 (by decide) ?_
            refine lv_iload_n hx hb dX8_write_18 rfl (lv_at hl 0 rfl) ?_
            refine lv_if_le (tgt := 59) hx hb dX8_write_19 (by decide) (fun c_19_11 => ?_) (fun c_19_11 => ?_)
            · exact absurd c_19_11 (by decide)
            · have t_19_11 := c_19_11
              try simp only [kb_eq0, kb_ne0, lg_cmp_lt, lg_cmp_le, lg_cmp_gt, lg_cmp_ge, lg_cmp_eq] at t_19_11
              try simp only [Int32.lt_iff_toInt_lt, Int32.le_iff_toInt_le, ← Int32.toInt_inj, Int64.lt_iff_toInt_lt, Int64.le_iff_toInt_le, ← Int64.toInt_inj, Int32.toInt_toInt64, Int32.reduceToInt, Int64.reduceToInt] at t_19_11
              refine lv_aload_n hx hb dX8_write_22 rfl (lv_at hl 1 rfl) ?_
              refine va_get (D := D) (ci := 8) (v := .ref mL) (C := RX8) (T := TX8) (N := 31) hx hb hts iX8_write_X8 hown hK hP 0 rfl rfl 29 (by decide) (hts (.fieldLink RX8 40 "TapeCalculatorModel" "line" "[B") (List.mem_of_getElem? (i := 1) rfl)) (fun _ h9 => h9) rfl dX8_write_23 ?_
              refine lv_aload_n hx hb dX8_write_26 rfl (lv_at hl 1 rfl) ?_
              refine va_get (D := D) (ci := 8) (v := .int 2) (C := RX8) (T := TX8) (N := 31) hx hb hts iX8_write_X8 hown hK hP 0 rfl rfl 30 (by decide) (hts (.fieldLink RX8 285 "TapeCalculatorModel" "lineSize" "I") (List.mem_of_getElem? (i := 2) rfl)) (fun _ h9 => h9) rfl dX8_write_27 ?_
              refine lv_bipush (v := 48) hx hb dX8_write_30 (by decide) ?_
              refine lv_iload_n hx hb dX8_write_32 rfl (lv_at hl 2 rfl) ?_
              refine lv_iload_n hx hb dX8_write_33 rfl (lv_at hl 0 rfl) ?_
              refine lv_idiv hx hb dX8_write_34 (by decide) ?_
              refine lv_bipush (v := 10) hx hb dX8_write_35 (by decide) ?_
              refine lv_irem hx hb dX8_write_37 (by decide) ?_
              refine lv_iadd hx hb dX8_write_38 ?_
              refine lv_i2b hx hb dX8_write_39 rfl ?_
              refine va_bast hx hb hK hP hD hS 1 2 rfl rfl (vp_in_iff.mpr (by decide)) dX8_write_40 (fun H locs hP hD hS => ?_)
              have hP : va_P D vwCl [(m0, .inr (8, [.ref mH, .int 0, .long 0, .int 0, .long 0, .int 0, .int 0, .int 0, .int 0, .int 0, .int 0, .long 0, .int 0, .int 0, .ref mI, .ref mJ, .ref mS, .ref mD, .int 0, .int 0, .int 0, .long 0, .ref mX, .int 0, .int 0, .int 0, .ref mA, .ref mB, .ref mW, .ref mL, .int 2])), (mL, .inl (cB, 16, .inl (upd (upd (upd (fun _ => 0) (0 : Int32).toNatClampNeg (vp_nar .byte (48 + ((n / 100) - (n / 100) / 10 * 10)).toInt8.toInt32)) (1 : Int32).toNatClampNeg (vp_nar .byte (48 + ((n / 10) - (n / 10) / 10 * 10)).toInt8.toInt32)) (2 : Int32).toNatClampNeg (vp_nar .byte (48 + ((n / 1) - (n / 1) / 10 * 10)).toInt8.toInt32))))] H := hP
              have hD : va_D A [(m0, .inr (8, [.ref mH, .int 0, .long 0, .int 0, .long 0, .int 0, .int 0, .int 0, .int 0, .int 0, .int 0, .long 0, .int 0, .int 0, .ref mI, .ref mJ, .ref mS, .ref mD, .int 0, .int 0, .int 0, .long 0, .ref mX, .int 0, .int 0, .int 0, .ref mA, .ref mB, .ref mW, .ref mL, .int 2])), (mL, .inl (cB, 16, .inl (upd (upd (upd (fun _ => 0) (0 : Int32).toNatClampNeg (vp_nar .byte (48 + ((n / 100) - (n / 100) / 10 * 10)).toInt8.toInt32)) (1 : Int32).toNatClampNeg (vp_nar .byte (48 + ((n / 10) - (n / 10) / 10 * 10)).toInt8.toInt32)) (2 : Int32).toNatClampNeg (vp_nar .byte (48 + ((n / 1) - (n / 1) / 10 * 10)).toInt8.toInt32))))] := hD
              refine lv_aload_n hx hb dX8_write_41 rfl (lv_at hl 1 rfl) ?_
              refine lv_dup hx hb dX8_write_42 rfl ?_
              refine va_get (D := D) (ci := 8) (v := .int 2) (C := RX8) (T := TX8) (N := 31) hx hb hts iX8_write_X8 hown hK hP 0 rfl rfl 30 (by decide) (hts (.fieldLink RX8 285 "TapeCalculatorModel" "lineSize" "I") (List.mem_of_getElem? (i := 2) rfl)) (fun _ h9 => h9) rfl dX8_write_43 ?_
              refine lv_iconst (v := 1) hx hb dX8_write_46 (by decide) ?_
              refine lv_iadd hx hb dX8_write_47 ?_
              refine lv_topi (fun x_13 ex_13 => ?_)
              obtain rfl : x_13 = 3 := ex_13.trans (by decide)
              refine va_put (D := D) (ci := 8) (v := .int 3) (ty := .int) (C := RX8) (T := TX8) (N := 31) hx hb hts iX8_write_X8 tyX8 tyX8_ok nmX8 hown hK hP hD hS 0 rfl rfl 30 (by decide) (hts (.fieldLink RX8 285 "TapeCalculatorModel" "lineSize" "I") (List.mem_of_getElem? (i := 2) rfl)) (fun _ h9 => h9) rfl (by decide +kernel) rfl rfl (Nat.le_of_ble_eq_true rfl) dX8_write_48 (fun H locs hP hD hS => ?_)
              have hP : va_P D vwCl [(m0, .inr (8, [.ref mH, .int 0, .long 0, .int 0, .long 0, .int 0, .int 0, .int 0, .int 0, .int 0, .int 0, .long 0, .int 0, .int 0, .ref mI, .ref mJ, .ref mS, .ref mD, .int 0, .int 0, .int 0, .long 0, .ref mX, .int 0, .int 0, .int 0, .ref mA, .ref mB, .ref mW, .ref mL, .int 3])), (mL, .inl (cB, 16, .inl (upd (upd (upd (fun _ => 0) (0 : Int32).toNatClampNeg (vp_nar .byte (48 + ((n / 100) - (n / 100) / 10 * 10)).toInt8.toInt32)) (1 : Int32).toNatClampNeg (vp_nar .byte (48 + ((n / 10) - (n / 10) / 10 * 10)).toInt8.toInt32)) (2 : Int32).toNatClampNeg (vp_nar .byte (48 + ((n / 1) - (n / 1) / 10 * 10)).toInt8.toInt32))))] H := hP
              have hD : va_D A [(m0, .inr (8, [.ref mH, .int 0, .long 0, .int 0, .long 0, .int 0, .int 0, .int 0, .int 0, .int 0, .int 0, .long 0, .int 0, .int 0, .ref mI, .ref mJ, .ref mS, .ref mD, .int 0, .int 0, .int 0, .long 0, .ref mX, .int 0, .int 0, .int 0, .ref mA, .ref mB, .ref mW, .ref mL, .int 3])), (mL, .inl (cB, 16, .inl (upd (upd (upd (fun _ => 0) (0 : Int32).toNatClampNeg (vp_nar .byte (48 + ((n / 100) - (n / 100) / 10 * 10)).toInt8.toInt32)) (1 : Int32).toNatClampNeg (vp_nar .byte (48 + ((n / 10) - (n / 10) / 10 * 10)).toInt8.toInt32)) (2 : Int32).toNatClampNeg (vp_nar .byte (48 + ((n / 1) - (n / 1) / 10 * 10)).toInt8.toInt32))))] := hD
              refine lv_iload_n hx hb dX8_write_51 rfl (lv_at hl 0 rfl) ?_
              refine lv_bipush (v := 10) hx hb dX8_write_52 (by decide) ?_
              refine lv_idiv hx hb dX8_write_54 (by decide) ?_
              refine lv_topi (fun x_14 ex_14 => ?_)
              obtain rfl : x_14 = 0 := ex_14.trans (by decide)
              refine lv_istore_n (lv' := [(2, .int 0), (0, .ref m0), (1, .int n)]) hx hb dX8_write_55 rfl hl (by decide) rfl (fun ls hl => ?_)
              refine lv_goto (tgt := 18) hx hb dX8_write_56 (by decide) ?_
              refine lv_iload_n hx hb dX8_write_18 rfl (lv_at hl 0 rfl) ?_
              refine lv_if_le (tgt := 59) hx hb dX8_write_19 (by decide) (fun c_19_14 => ?_) (fun c_19_14 => ?_)
              · have t_19_14 := c_19_14
                try simp only [kb_eq0, kb_ne0, lg_cmp_lt, lg_cmp_le, lg_cmp_gt, lg_cmp_ge, lg_cmp_eq] at t_19_14
                try simp only [Int32.lt_iff_toInt_lt, Int32.le_iff_toInt_le, ← Int32.toInt_inj, Int64.lt_iff_toInt_lt, Int64.le_iff_toInt_le, ← Int64.toInt_inj, Int32.toInt_toInt64, Int32.reduceToInt, Int64.reduceToInt] at t_19_14
                refine kVret (u := ()) hx hb hr hlocks hS dX8_write_59 ?_ (hP.sub [0, 1] rfl) (hD.sub [0, 1] (by decide) rfl)
                exact trivial
              · exact absurd (by decide) c_19_14
      · have t_7_4 := c_7_4
        try simp only [kb_eq0, kb_ne0, lg_cmp_lt, lg_cmp_le, lg_cmp_gt, lg_cmp_ge, lg_cmp_eq] at t_7_4
        try simp only [Int32.lt_iff_toInt_lt, Int32.le_iff_toInt_le, ← Int32.toInt_inj, Int64.lt_iff_toInt_lt, Int64.le_iff_toInt_le, ← Int64.toInt_inj, Int32.toInt_toInt64, Int32.reduceToInt, Int64.reduceToInt] at t_7_4
        omega
set_option maxRecDepth 100000 in
set_option maxHeartbeats 4000000 in
theorem r_writeZ_2 (l : Launch) (D : va_G) (cI cL cB cZ cT : ClassId) (sz : Nat) (m0 mH mI mJ mS mD mX mA mB mW mL : Nat) (fw : Nat → Int32) : kM (S := Unit) l yX8_write wsX8_write ({ frames := 0, cells := 0, slots := 0, locals := 0 }) D (kT cI cL cB cZ cT) [.ref m0, .int 0] [(m0, .inr (8, [.ref mH, .int 0, .long 0, .int 0, .long 0, .int 0, .int 0, .int 0, .int 0, .int 0, .int 0, .long 0, .int 0, .int 0, .ref mI, .ref mJ, .ref mS, .ref mD, .int 0, .int 0, .int 0, .long 0, .ref mX, .int 0, .int 0, .int 0, .ref mA, .ref mB, .ref mW, .ref mL, .int 2])), (mL, .inl (cB, 16, .inl fw))] sz eV (fun _ _ => True) (fun _ => [(m0, .inr (8, [.ref mH, .int 0, .long 0, .int 0, .long 0, .int 0, .int 0, .int 0, .int 0, .int 0, .int 0, .long 0, .int 0, .int 0, .ref mI, .ref mJ, .ref mS, .ref mD, .int 0, .int 0, .int 0, .long 0, .ref mX, .int 0, .int 0, .int 0, .ref mA, .ref mB, .ref mW, .ref mL, .int 3])), (mL, .inl (cB, 16, .inl (upd fw (2 : Int32).toNatClampNeg (vp_nar .byte 48))))]) 0 0 := by
  refine kStart (cc := cX8_write) (maxL := 3) (ret := none) (own := RX8) (by decide) rfl rfl (Nat.le_of_ble_eq_true rfl) ?_
  intro p e s m args below meth c A ls hx hb hr hml hown hts hlocks hnm hsz hA hG hP hD hS hl
  have hK := hG.1
  have hl : lv_has ls 3 [(0, .ref m0), (1, .int 0)] := hl
  refine lv_iconst (v := 1) hx hb dX8_write_0 (by decide) ?_
  refine lv_istore_n (lv' := [(2, .int 1), (0, .ref m0), (1, .int 0)]) hx hb dX8_write_1 rfl hl (by decide) rfl (fun ls hl => ?_)
  refine lv_iload_n hx hb dX8_write_2 rfl (lv_at hl 2 rfl) ?_
  refine lv_iload_n hx hb dX8_write_3 rfl (lv_at hl 0 rfl) ?_
  refine lv_idiv hx hb dX8_write_4 (by decide) ?_
  refine lv_topi (fun x_1 ex_1 => ?_)
  obtain rfl : x_1 = 0 := ex_1.trans (by decide)
  refine lv_bipush (v := 9) hx hb dX8_write_5 (by decide) ?_
  refine lv_icmp_le (tgt := 18) hx hb dX8_write_7 (by decide) (fun c_7_1 => ?_) (fun c_7_1 => ?_)
  · have t_7_1 := c_7_1
    try simp only [kb_eq0, kb_ne0, lg_cmp_lt, lg_cmp_le, lg_cmp_gt, lg_cmp_ge, lg_cmp_eq] at t_7_1
    try simp only [Int32.lt_iff_toInt_lt, Int32.le_iff_toInt_le, ← Int32.toInt_inj, Int64.lt_iff_toInt_lt, Int64.le_iff_toInt_le, ← Int64.toInt_inj, Int32.toInt_toInt64, Int32.reduceToInt, Int64.reduceToInt] at t_7_1
    refine lv_iload_n hx hb dX8_write_18 rfl (lv_at hl 0 rfl) ?_
    refine lv_if_le (tgt := 59) hx hb dX8_write_19 (by decide) (fun c_19_2 => ?_) (fun c_19_2 => ?_)
    · exact absurd c_19_2 (by decide)
    · have t_19_2 := c_19_2
      try simp only [kb_eq0, kb_ne0, lg_cmp_lt, lg_cmp_le, lg_cmp_gt, lg_cmp_ge, lg_cmp_eq] at t_19_2
      try simp only [Int32.lt_iff_toInt_lt, Int32.le_iff_toInt_le, ← Int32.toInt_inj, Int64.lt_iff_toInt_lt, Int64.le_iff_toInt_le, ← Int64.toInt_inj, Int32.toInt_toInt64, Int32.reduceToInt, Int64.reduceToInt] at t_19_2
      refine lv_aload_n hx hb dX8_write_22 rfl (lv_at hl 1 rfl) ?_
      refine va_get (D := D) (ci := 8) (v := .ref mL) (C := RX8) (T := TX8) (N := 31) hx hb hts iX8_write_X8 hown hK hP 0 rfl rfl 29 (by decide) (hts (.fieldLink RX8 40 "TapeCalculatorModel" "line" "[B") (List.mem_of_getElem? (i := 1) rfl)) (fun _ h9 => h9) rfl dX8_write_23 ?_
      refine lv_aload_n hx hb dX8_write_26 rfl (lv_at hl 1 rfl) ?_
      refine va_get (D := D) (ci := 8) (v := .int 2) (C := RX8) (T := TX8) (N := 31) hx hb hts iX8_write_X8 hown hK hP 0 rfl rfl 30 (by decide) (hts (.fieldLink RX8 285 "TapeCalculatorModel" "lineSize" "I") (List.mem_of_getElem? (i := 2) rfl)) (fun _ h9 => h9) rfl dX8_write_27 ?_
      refine lv_bipush (v := 48) hx hb dX8_write_30 (by decide) ?_
      refine lv_iload_n hx hb dX8_write_32 rfl (lv_at hl 2 rfl) ?_
      refine lv_iload_n hx hb dX8_write_33 rfl (lv_at hl 0 rfl) ?_
      refine lv_idiv hx hb dX8_write_34 (by decide) ?_
      refine lv_topi (fun x_4 ex_4 => ?_)
      obtain rfl : x_4 = 0 := ex_4.trans (by decide)
      refine lv_bipush (v := 10) hx hb dX8_write_35 (by decide) ?_
      refine lv_irem hx hb dX8_write_37 (by decide) ?_
      refine lv_topi (fun x_5 ex_5 => ?_)
      obtain rfl : x_5 = 0 := ex_5.trans (by decide)
      refine lv_iadd hx hb dX8_write_38 ?_
      refine lv_topi (fun x_6 ex_6 => ?_)
      obtain rfl : x_6 = 48 := ex_6.trans (by decide)
      refine lv_i2b hx hb dX8_write_39 rfl ?_
      refine lv_topi (fun x_7 ex_7 => ?_)
      obtain rfl : x_7 = 48 := ex_7.trans (by decide)
      refine va_bast hx hb hK hP hD hS 1 2 rfl rfl (vp_in_iff.mpr (by decide)) dX8_write_40 (fun H locs hP hD hS => ?_)
      have hP : va_P D vwCl [(m0, .inr (8, [.ref mH, .int 0, .long 0, .int 0, .long 0, .int 0, .int 0, .int 0, .int 0, .int 0, .int 0, .long 0, .int 0, .int 0, .ref mI, .ref mJ, .ref mS, .ref mD, .int 0, .int 0, .int 0, .long 0, .ref mX, .int 0, .int 0, .int 0, .ref mA, .ref mB, .ref mW, .ref mL, .int 2])), (mL, .inl (cB, 16, .inl (upd fw (2 : Int32).toNatClampNeg (vp_nar .byte 48))))] H := hP
      have hD : va_D A [(m0, .inr (8, [.ref mH, .int 0, .long 0, .int 0, .long 0, .int 0, .int 0, .int 0, .int 0, .int 0, .int 0, .long 0, .int 0, .int 0, .ref mI, .ref mJ, .ref mS, .ref mD, .int 0, .int 0, .int 0, .long 0, .ref mX, .int 0, .int 0, .int 0, .ref mA, .ref mB, .ref mW, .ref mL, .int 2])), (mL, .inl (cB, 16, .inl (upd fw (2 : Int32).toNatClampNeg (vp_nar .byte 48))))] := hD
      refine lv_aload_n hx hb dX8_write_41 rfl (lv_at hl 1 rfl) ?_
      refine lv_dup hx hb dX8_write_42 rfl ?_
      refine va_get (D := D) (ci := 8) (v := .int 2) (C := RX8) (T := TX8) (N := 31) hx hb hts iX8_write_X8 hown hK hP 0 rfl rfl 30 (by decide) (hts (.fieldLink RX8 285 "TapeCalculatorModel" "lineSize" "I") (List.mem_of_getElem? (i := 2) rfl)) (fun _ h9 => h9) rfl dX8_write_43 ?_
      refine lv_iconst (v := 1) hx hb dX8_write_46 (by decide) ?_
      refine lv_iadd hx hb dX8_write_47 ?_
      refine lv_topi (fun x_8 ex_8 => ?_)
      obtain rfl : x_8 = 3 := ex_8.trans (by decide)
      refine va_put (D := D) (ci := 8) (v := .int 3) (ty := .int) (C := RX8) (T := TX8) (N := 31) hx hb hts iX8_write_X8 tyX8 tyX8_ok nmX8 hown hK hP hD hS 0 rfl rfl 30 (by decide) (hts (.fieldLink RX8 285 "TapeCalculatorModel" "lineSize" "I") (List.mem_of_getElem? (i := 2) rfl)) (fun _ h9 => h9) rfl (by decide +kernel) rfl rfl (Nat.le_of_ble_eq_true rfl) dX8_write_48 (fun H locs hP hD hS => ?_)
      have hP : va_P D vwCl [(m0, .inr (8, [.ref mH, .int 0, .long 0, .int 0, .long 0, .int 0, .int 0, .int 0, .int 0, .int 0, .int 0, .long 0, .int 0, .int 0, .ref mI, .ref mJ, .ref mS, .ref mD, .int 0, .int 0, .int 0, .long 0, .ref mX, .int 0, .int 0, .int 0, .ref mA, .ref mB, .ref mW, .ref mL, .int 3])), (mL, .inl (cB, 16, .inl (upd fw (2 : Int32).toNatClampNeg (vp_nar .byte 48))))] H := hP
      have hD : va_D A [(m0, .inr (8, [.ref mH, .int 0, .long 0, .int 0, .long 0, .int 0, .int 0, .int 0, .int 0, .int 0, .int 0, .long 0, .int 0, .int 0, .ref mI, .ref mJ, .ref mS, .ref mD, .int 0, .int 0, .int 0, .long 0, .ref mX, .int 0, .int 0, .int 0, .ref mA, .ref mB, .ref mW, .ref mL, .int 3])), (mL, .inl (cB, 16, .inl (upd fw (2 : Int32).toNatClampNeg (vp_nar .byte 48))))] := hD
      refine lv_iload_n hx hb dX8_write_51 rfl (lv_at hl 0 rfl) ?_
      refine lv_bipush (v := 10) hx hb dX8_write_52 (by decide) ?_
      refine lv_idiv hx hb dX8_write_54 (by decide) ?_
      refine lv_topi (fun x_9 ex_9 => ?_)
      obtain rfl : x_9 = 0 := ex_9.trans (by decide)
      refine lv_istore_n (lv' := [(2, .int 0), (0, .ref m0), (1, .int 0)]) hx hb dX8_write_55 rfl hl (by decide) rfl (fun ls hl => ?_)
      refine lv_goto (tgt := 18) hx hb dX8_write_56 (by decide) ?_
      refine lv_iload_n hx hb dX8_write_18 rfl (lv_at hl 0 rfl) ?_
      refine lv_if_le (tgt := 59) hx hb dX8_write_19 (by decide) (fun c_19_9 => ?_) (fun c_19_9 => ?_)
      · have t_19_9 := c_19_9
        try simp only [kb_eq0, kb_ne0, lg_cmp_lt, lg_cmp_le, lg_cmp_gt, lg_cmp_ge, lg_cmp_eq] at t_19_9
        try simp only [Int32.lt_iff_toInt_lt, Int32.le_iff_toInt_le, ← Int32.toInt_inj, Int64.lt_iff_toInt_lt, Int64.le_iff_toInt_le, ← Int64.toInt_inj, Int32.toInt_toInt64, Int32.reduceToInt, Int64.reduceToInt] at t_19_9
        refine kVret (u := ()) hx hb hr hlocks hS dX8_write_59 ?_ (hP.sub [0, 1] rfl) (hD.sub [0, 1] (by decide) rfl)
        exact trivial
      · exact absurd (by decide) c_19_9
  · exact absurd (by decide) c_7_1
set_option maxRecDepth 100000 in
set_option maxHeartbeats 4000000 in
theorem r_writeZ_3 (l : Launch) (D : va_G) (cI cL cB cZ cT : ClassId) (sz : Nat) (m0 mH mI mJ mS mD mX mA mB mW mL : Nat) (fw : Nat → Int32) : kM (S := Unit) l yX8_write wsX8_write ({ frames := 0, cells := 0, slots := 0, locals := 0 }) D (kT cI cL cB cZ cT) [.ref m0, .int 0] [(m0, .inr (8, [.ref mH, .int 0, .long 0, .int 0, .long 0, .int 0, .int 0, .int 0, .int 0, .int 0, .int 0, .long 0, .int 0, .int 0, .ref mI, .ref mJ, .ref mS, .ref mD, .int 0, .int 0, .int 0, .long 0, .ref mX, .int 0, .int 0, .int 0, .ref mA, .ref mB, .ref mW, .ref mL, .int 3])), (mL, .inl (cB, 16, .inl fw))] sz eV (fun _ _ => True) (fun _ => [(m0, .inr (8, [.ref mH, .int 0, .long 0, .int 0, .long 0, .int 0, .int 0, .int 0, .int 0, .int 0, .int 0, .long 0, .int 0, .int 0, .ref mI, .ref mJ, .ref mS, .ref mD, .int 0, .int 0, .int 0, .long 0, .ref mX, .int 0, .int 0, .int 0, .ref mA, .ref mB, .ref mW, .ref mL, .int 4])), (mL, .inl (cB, 16, .inl (upd fw (3 : Int32).toNatClampNeg (vp_nar .byte 48))))]) 0 0 := by
  refine kStart (cc := cX8_write) (maxL := 3) (ret := none) (own := RX8) (by decide) rfl rfl (Nat.le_of_ble_eq_true rfl) ?_
  intro p e s m args below meth c A ls hx hb hr hml hown hts hlocks hnm hsz hA hG hP hD hS hl
  have hK := hG.1
  have hl : lv_has ls 3 [(0, .ref m0), (1, .int 0)] := hl
  refine lv_iconst (v := 1) hx hb dX8_write_0 (by decide) ?_
  refine lv_istore_n (lv' := [(2, .int 1), (0, .ref m0), (1, .int 0)]) hx hb dX8_write_1 rfl hl (by decide) rfl (fun ls hl => ?_)
  refine lv_iload_n hx hb dX8_write_2 rfl (lv_at hl 2 rfl) ?_
  refine lv_iload_n hx hb dX8_write_3 rfl (lv_at hl 0 rfl) ?_
  refine lv_idiv hx hb dX8_write_4 (by decide) ?_
  refine lv_topi (fun x_1 ex_1 => ?_)
  obtain rfl : x_1 = 0 := ex_1.trans (by decide)
  refine lv_bipush (v := 9) hx hb dX8_write_5 (by decide) ?_
  refine lv_icmp_le (tgt := 18) hx hb dX8_write_7 (by decide) (fun c_7_1 => ?_) (fun c_7_1 => ?_)
  · have t_7_1 := c_7_1
    try simp only [kb_eq0, kb_ne0, lg_cmp_lt, lg_cmp_le, lg_cmp_gt, lg_cmp_ge, lg_cmp_eq] at t_7_1
    try simp only [Int32.lt_iff_toInt_lt, Int32.le_iff_toInt_le, ← Int32.toInt_inj, Int64.lt_iff_toInt_lt, Int64.le_iff_toInt_le, ← Int64.toInt_inj, Int32.toInt_toInt64, Int32.reduceToInt, Int64.reduceToInt] at t_7_1
    refine lv_iload_n hx hb dX8_write_18 rfl (lv_at hl 0 rfl) ?_
    refine lv_if_le (tgt := 59) hx hb dX8_write_19 (by decide) (fun c_19_2 => ?_) (fun c_19_2 => ?_)
    · exact absurd c_19_2 (by decide)
    · have t_19_2 := c_19_2
      try simp only [kb_eq0, kb_ne0, lg_cmp_lt, lg_cmp_le, lg_cmp_gt, lg_cmp_ge, lg_cmp_eq] at t_19_2
      try simp only [Int32.lt_iff_toInt_lt, Int32.le_iff_toInt_le, ← Int32.toInt_inj, Int64.lt_iff_toInt_lt, Int64.le_iff_toInt_le, ← Int64.toInt_inj, Int32.toInt_toInt64, Int32.reduceToInt, Int64.reduceToInt] at t_19_2
      refine lv_aload_n hx hb dX8_write_22 rfl (lv_at hl 1 rfl) ?_
      refine va_get (D := D) (ci := 8) (v := .ref mL) (C := RX8) (T := TX8) (N := 31) hx hb hts iX8_write_X8 hown hK hP 0 rfl rfl 29 (by decide) (hts (.fieldLink RX8 40 "TapeCalculatorModel" "line" "[B") (List.mem_of_getElem? (i := 1) rfl)) (fun _ h9 => h9) rfl dX8_write_23 ?_
      refine lv_aload_n hx hb dX8_write_26 rfl (lv_at hl 1 rfl) ?_
      refine va_get (D := D) (ci := 8) (v := .int 3) (C := RX8) (T := TX8) (N := 31) hx hb hts iX8_write_X8 hown hK hP 0 rfl rfl 30 (by decide) (hts (.fieldLink RX8 285 "TapeCalculatorModel" "lineSize" "I") (List.mem_of_getElem? (i := 2) rfl)) (fun _ h9 => h9) rfl dX8_write_27 ?_
      refine lv_bipush (v := 48) hx hb dX8_write_30 (by decide) ?_
      refine lv_iload_n hx hb dX8_write_32 rfl (lv_at hl 2 rfl) ?_
      refine lv_iload_n hx hb dX8_write_33 rfl (lv_at hl 0 rfl) ?_
      refine lv_idiv hx hb dX8_write_34 (by decide) ?_
      refine lv_topi (fun x_4 ex_4 => ?_)
      obtain rfl : x_4 = 0 := ex_4.trans (by decide)
      refine lv_bipush (v := 10) hx hb dX8_write_35 (by decide) ?_
      refine lv_irem hx hb dX8_write_37 (by decide) ?_
      refine lv_topi (fun x_5 ex_5 => ?_)
      obtain rfl : x_5 = 0 := ex_5.trans (by decide)
      refine lv_iadd hx hb dX8_write_38 ?_
      refine lv_topi (fun x_6 ex_6 => ?_)
      obtain rfl : x_6 = 48 := ex_6.trans (by decide)
      refine lv_i2b hx hb dX8_write_39 rfl ?_
      refine lv_topi (fun x_7 ex_7 => ?_)
      obtain rfl : x_7 = 48 := ex_7.trans (by decide)
      refine va_bast hx hb hK hP hD hS 1 2 rfl rfl (vp_in_iff.mpr (by decide)) dX8_write_40 (fun H locs hP hD hS => ?_)
      have hP : va_P D vwCl [(m0, .inr (8, [.ref mH, .int 0, .long 0, .int 0, .long 0, .int 0, .int 0, .int 0, .int 0, .int 0, .int 0, .long 0, .int 0, .int 0, .ref mI, .ref mJ, .ref mS, .ref mD, .int 0, .int 0, .int 0, .long 0, .ref mX, .int 0, .int 0, .int 0, .ref mA, .ref mB, .ref mW, .ref mL, .int 3])), (mL, .inl (cB, 16, .inl (upd fw (3 : Int32).toNatClampNeg (vp_nar .byte 48))))] H := hP
      have hD : va_D A [(m0, .inr (8, [.ref mH, .int 0, .long 0, .int 0, .long 0, .int 0, .int 0, .int 0, .int 0, .int 0, .int 0, .long 0, .int 0, .int 0, .ref mI, .ref mJ, .ref mS, .ref mD, .int 0, .int 0, .int 0, .long 0, .ref mX, .int 0, .int 0, .int 0, .ref mA, .ref mB, .ref mW, .ref mL, .int 3])), (mL, .inl (cB, 16, .inl (upd fw (3 : Int32).toNatClampNeg (vp_nar .byte 48))))] := hD
      refine lv_aload_n hx hb dX8_write_41 rfl (lv_at hl 1 rfl) ?_
      refine lv_dup hx hb dX8_write_42 rfl ?_
      refine va_get (D := D) (ci := 8) (v := .int 3) (C := RX8) (T := TX8) (N := 31) hx hb hts iX8_write_X8 hown hK hP 0 rfl rfl 30 (by decide) (hts (.fieldLink RX8 285 "TapeCalculatorModel" "lineSize" "I") (List.mem_of_getElem? (i := 2) rfl)) (fun _ h9 => h9) rfl dX8_write_43 ?_
      refine lv_iconst (v := 1) hx hb dX8_write_46 (by decide) ?_
      refine lv_iadd hx hb dX8_write_47 ?_
      refine lv_topi (fun x_8 ex_8 => ?_)
      obtain rfl : x_8 = 4 := ex_8.trans (by decide)
      refine va_put (D := D) (ci := 8) (v := .int 4) (ty := .int) (C := RX8) (T := TX8) (N := 31) hx hb hts iX8_write_X8 tyX8 tyX8_ok nmX8 hown hK hP hD hS 0 rfl rfl 30 (by decide) (hts (.fieldLink RX8 285 "TapeCalculatorModel" "lineSize" "I") (List.mem_of_getElem? (i := 2) rfl)) (fun _ h9 => h9) rfl (by decide +kernel) rfl rfl (Nat.le_of_ble_eq_true rfl) dX8_write_48 (fun H locs hP hD hS => ?_)
      have hP : va_P D vwCl [(m0, .inr (8, [.ref mH, .int 0, .long 0, .int 0, .long 0, .int 0, .int 0, .int 0, .int 0, .int 0, .int 0, .long 0, .int 0, .int 0, .ref mI, .ref mJ, .ref mS, .ref mD, .int 0, .int 0, .int 0, .long 0, .ref mX, .int 0, .int 0, .int 0, .ref mA, .ref mB, .ref mW, .ref mL, .int 4])), (mL, .inl (cB, 16, .inl (upd fw (3 : Int32).toNatClampNeg (vp_nar .byte 48))))] H := hP
      have hD : va_D A [(m0, .inr (8, [.ref mH, .int 0, .long 0, .int 0, .long 0, .int 0, .int 0, .int 0, .int 0, .int 0, .int 0, .long 0, .int 0, .int 0, .ref mI, .ref mJ, .ref mS, .ref mD, .int 0, .int 0, .int 0, .long 0, .ref mX, .int 0, .int 0, .int 0, .ref mA, .ref mB, .ref mW, .ref mL, .int 4])), (mL, .inl (cB, 16, .inl (upd fw (3 : Int32).toNatClampNeg (vp_nar .byte 48))))] := hD
      refine lv_iload_n hx hb dX8_write_51 rfl (lv_at hl 0 rfl) ?_
      refine lv_bipush (v := 10) hx hb dX8_write_52 (by decide) ?_
      refine lv_idiv hx hb dX8_write_54 (by decide) ?_
      refine lv_topi (fun x_9 ex_9 => ?_)
      obtain rfl : x_9 = 0 := ex_9.trans (by decide)
      refine lv_istore_n (lv' := [(2, .int 0), (0, .ref m0), (1, .int 0)]) hx hb dX8_write_55 rfl hl (by decide) rfl (fun ls hl => ?_)
      refine lv_goto (tgt := 18) hx hb dX8_write_56 (by decide) ?_
      refine lv_iload_n hx hb dX8_write_18 rfl (lv_at hl 0 rfl) ?_
      refine lv_if_le (tgt := 59) hx hb dX8_write_19 (by decide) (fun c_19_9 => ?_) (fun c_19_9 => ?_)
      · have t_19_9 := c_19_9
        try simp only [kb_eq0, kb_ne0, lg_cmp_lt, lg_cmp_le, lg_cmp_gt, lg_cmp_ge, lg_cmp_eq] at t_19_9
        try simp only [Int32.lt_iff_toInt_lt, Int32.le_iff_toInt_le, ← Int32.toInt_inj, Int64.lt_iff_toInt_lt, Int64.le_iff_toInt_le, ← Int64.toInt_inj, Int32.toInt_toInt64, Int32.reduceToInt, Int64.reduceToInt] at t_19_9
        refine kVret (u := ()) hx hb hr hlocks hS dX8_write_59 ?_ (hP.sub [0, 1] rfl) (hD.sub [0, 1] (by decide) rfl)
        exact trivial
      · exact absurd (by decide) c_19_9
  · exact absurd (by decide) c_7_1
set_option maxRecDepth 100000 in
set_option maxHeartbeats 4000000 in
theorem r_writeZ_4 (l : Launch) (D : va_G) (cI cL cB cZ cT : ClassId) (sz : Nat) (m0 mH mI mJ mS mD mX mA mB mW mL : Nat) (fw : Nat → Int32) : kM (S := Unit) l yX8_write wsX8_write ({ frames := 0, cells := 0, slots := 0, locals := 0 }) D (kT cI cL cB cZ cT) [.ref m0, .int 0] [(m0, .inr (8, [.ref mH, .int 0, .long 0, .int 0, .long 0, .int 0, .int 0, .int 0, .int 0, .int 0, .int 0, .long 0, .int 0, .int 0, .ref mI, .ref mJ, .ref mS, .ref mD, .int 0, .int 0, .int 0, .long 0, .ref mX, .int 0, .int 0, .int 0, .ref mA, .ref mB, .ref mW, .ref mL, .int 4])), (mL, .inl (cB, 16, .inl fw))] sz eV (fun _ _ => True) (fun _ => [(m0, .inr (8, [.ref mH, .int 0, .long 0, .int 0, .long 0, .int 0, .int 0, .int 0, .int 0, .int 0, .int 0, .long 0, .int 0, .int 0, .ref mI, .ref mJ, .ref mS, .ref mD, .int 0, .int 0, .int 0, .long 0, .ref mX, .int 0, .int 0, .int 0, .ref mA, .ref mB, .ref mW, .ref mL, .int 5])), (mL, .inl (cB, 16, .inl (upd fw (4 : Int32).toNatClampNeg (vp_nar .byte 48))))]) 0 0 := by
  refine kStart (cc := cX8_write) (maxL := 3) (ret := none) (own := RX8) (by decide) rfl rfl (Nat.le_of_ble_eq_true rfl) ?_
  intro p e s m args below meth c A ls hx hb hr hml hown hts hlocks hnm hsz hA hG hP hD hS hl
  have hK := hG.1
  have hl : lv_has ls 3 [(0, .ref m0), (1, .int 0)] := hl
  refine lv_iconst (v := 1) hx hb dX8_write_0 (by decide) ?_
  refine lv_istore_n (lv' := [(2, .int 1), (0, .ref m0), (1, .int 0)]) hx hb dX8_write_1 rfl hl (by decide) rfl (fun ls hl => ?_)
  refine lv_iload_n hx hb dX8_write_2 rfl (lv_at hl 2 rfl) ?_
  refine lv_iload_n hx hb dX8_write_3 rfl (lv_at hl 0 rfl) ?_
  refine lv_idiv hx hb dX8_write_4 (by decide) ?_
  refine lv_topi (fun x_1 ex_1 => ?_)
  obtain rfl : x_1 = 0 := ex_1.trans (by decide)
  refine lv_bipush (v := 9) hx hb dX8_write_5 (by decide) ?_
  refine lv_icmp_le (tgt := 18) hx hb dX8_write_7 (by decide) (fun c_7_1 => ?_) (fun c_7_1 => ?_)
  · have t_7_1 := c_7_1
    try simp only [kb_eq0, kb_ne0, lg_cmp_lt, lg_cmp_le, lg_cmp_gt, lg_cmp_ge, lg_cmp_eq] at t_7_1
    try simp only [Int32.lt_iff_toInt_lt, Int32.le_iff_toInt_le, ← Int32.toInt_inj, Int64.lt_iff_toInt_lt, Int64.le_iff_toInt_le, ← Int64.toInt_inj, Int32.toInt_toInt64, Int32.reduceToInt, Int64.reduceToInt] at t_7_1
    refine lv_iload_n hx hb dX8_write_18 rfl (lv_at hl 0 rfl) ?_
    refine lv_if_le (tgt := 59) hx hb dX8_write_19 (by decide) (fun c_19_2 => ?_) (fun c_19_2 => ?_)
    · exact absurd c_19_2 (by decide)
    · have t_19_2 := c_19_2
      try simp only [kb_eq0, kb_ne0, lg_cmp_lt, lg_cmp_le, lg_cmp_gt, lg_cmp_ge, lg_cmp_eq] at t_19_2
      try simp only [Int32.lt_iff_toInt_lt, Int32.le_iff_toInt_le, ← Int32.toInt_inj, Int64.lt_iff_toInt_lt, Int64.le_iff_toInt_le, ← Int64.toInt_inj, Int32.toInt_toInt64, Int32.reduceToInt, Int64.reduceToInt] at t_19_2
      refine lv_aload_n hx hb dX8_write_22 rfl (lv_at hl 1 rfl) ?_
      refine va_get (D := D) (ci := 8) (v := .ref mL) (C := RX8) (T := TX8) (N := 31) hx hb hts iX8_write_X8 hown hK hP 0 rfl rfl 29 (by decide) (hts (.fieldLink RX8 40 "TapeCalculatorModel" "line" "[B") (List.mem_of_getElem? (i := 1) rfl)) (fun _ h9 => h9) rfl dX8_write_23 ?_
      refine lv_aload_n hx hb dX8_write_26 rfl (lv_at hl 1 rfl) ?_
      refine va_get (D := D) (ci := 8) (v := .int 4) (C := RX8) (T := TX8) (N := 31) hx hb hts iX8_write_X8 hown hK hP 0 rfl rfl 30 (by decide) (hts (.fieldLink RX8 285 "TapeCalculatorModel" "lineSize" "I") (List.mem_of_getElem? (i := 2) rfl)) (fun _ h9 => h9) rfl dX8_write_27 ?_
      refine lv_bipush (v := 48) hx hb dX8_write_30 (by decide) ?_
      refine lv_iload_n hx hb dX8_write_32 rfl (lv_at hl 2 rfl) ?_
      refine lv_iload_n hx hb dX8_write_33 rfl (lv_at hl 0 rfl) ?_
      refine lv_idiv hx hb dX8_write_34 (by decide) ?_
      refine lv_topi (fun x_4 ex_4 => ?_)
      obtain rfl : x_4 = 0 := ex_4.trans (by decide)
      refine lv_bipush (v := 10) hx hb dX8_write_35 (by decide) ?_
      refine lv_irem hx hb dX8_write_37 (by decide) ?_
      refine lv_topi (fun x_5 ex_5 => ?_)
      obtain rfl : x_5 = 0 := ex_5.trans (by decide)
      refine lv_iadd hx hb dX8_write_38 ?_
      refine lv_topi (fun x_6 ex_6 => ?_)
      obtain rfl : x_6 = 48 := ex_6.trans (by decide)
      refine lv_i2b hx hb dX8_write_39 rfl ?_
      refine lv_topi (fun x_7 ex_7 => ?_)
      obtain rfl : x_7 = 48 := ex_7.trans (by decide)
      refine va_bast hx hb hK hP hD hS 1 2 rfl rfl (vp_in_iff.mpr (by decide)) dX8_write_40 (fun H locs hP hD hS => ?_)
      have hP : va_P D vwCl [(m0, .inr (8, [.ref mH, .int 0, .long 0, .int 0, .long 0, .int 0, .int 0, .int 0, .int 0, .int 0, .int 0, .long 0, .int 0, .int 0, .ref mI, .ref mJ, .ref mS, .ref mD, .int 0, .int 0, .int 0, .long 0, .ref mX, .int 0, .int 0, .int 0, .ref mA, .ref mB, .ref mW, .ref mL, .int 4])), (mL, .inl (cB, 16, .inl (upd fw (4 : Int32).toNatClampNeg (vp_nar .byte 48))))] H := hP
      have hD : va_D A [(m0, .inr (8, [.ref mH, .int 0, .long 0, .int 0, .long 0, .int 0, .int 0, .int 0, .int 0, .int 0, .int 0, .long 0, .int 0, .int 0, .ref mI, .ref mJ, .ref mS, .ref mD, .int 0, .int 0, .int 0, .long 0, .ref mX, .int 0, .int 0, .int 0, .ref mA, .ref mB, .ref mW, .ref mL, .int 4])), (mL, .inl (cB, 16, .inl (upd fw (4 : Int32).toNatClampNeg (vp_nar .byte 48))))] := hD
      refine lv_aload_n hx hb dX8_write_41 rfl (lv_at hl 1 rfl) ?_
      refine lv_dup hx hb dX8_write_42 rfl ?_
      refine va_get (D := D) (ci := 8) (v := .int 4) (C := RX8) (T := TX8) (N := 31) hx hb hts iX8_write_X8 hown hK hP 0 rfl rfl 30 (by decide) (hts (.fieldLink RX8 285 "TapeCalculatorModel" "lineSize" "I") (List.mem_of_getElem? (i := 2) rfl)) (fun _ h9 => h9) rfl dX8_write_43 ?_
      refine lv_iconst (v := 1) hx hb dX8_write_46 (by decide) ?_
      refine lv_iadd hx hb dX8_write_47 ?_
      refine lv_topi (fun x_8 ex_8 => ?_)
      obtain rfl : x_8 = 5 := ex_8.trans (by decide)
      refine va_put (D := D) (ci := 8) (v := .int 5) (ty := .int) (C := RX8) (T := TX8) (N := 31) hx hb hts iX8_write_X8 tyX8 tyX8_ok nmX8 hown hK hP hD hS 0 rfl rfl 30 (by decide) (hts (.fieldLink RX8 285 "TapeCalculatorModel" "lineSize" "I") (List.mem_of_getElem? (i := 2) rfl)) (fun _ h9 => h9) rfl (by decide +kernel) rfl rfl (Nat.le_of_ble_eq_true rfl) dX8_write_48 (fun H locs hP hD hS => ?_)
      have hP : va_P D vwCl [(m0, .inr (8, [.ref mH, .int 0, .long 0, .int 0, .long 0, .int 0, .int 0, .int 0, .int 0, .int 0, .int 0, .long 0, .int 0, .int 0, .ref mI, .ref mJ, .ref mS, .ref mD, .int 0, .int 0, .int 0, .long 0, .ref mX, .int 0, .int 0, .int 0, .ref mA, .ref mB, .ref mW, .ref mL, .int 5])), (mL, .inl (cB, 16, .inl (upd fw (4 : Int32).toNatClampNeg (vp_nar .byte 48))))] H := hP
      have hD : va_D A [(m0, .inr (8, [.ref mH, .int 0, .long 0, .int 0, .long 0, .int 0, .int 0, .int 0, .int 0, .int 0, .int 0, .long 0, .int 0, .int 0, .ref mI, .ref mJ, .ref mS, .ref mD, .int 0, .int 0, .int 0, .long 0, .ref mX, .int 0, .int 0, .int 0, .ref mA, .ref mB, .ref mW, .ref mL, .int 5])), (mL, .inl (cB, 16, .inl (upd fw (4 : Int32).toNatClampNeg (vp_nar .byte 48))))] := hD
      refine lv_iload_n hx hb dX8_write_51 rfl (lv_at hl 0 rfl) ?_
      refine lv_bipush (v := 10) hx hb dX8_write_52 (by decide) ?_
      refine lv_idiv hx hb dX8_write_54 (by decide) ?_
      refine lv_topi (fun x_9 ex_9 => ?_)
      obtain rfl : x_9 = 0 := ex_9.trans (by decide)
      refine lv_istore_n (lv' := [(2, .int 0), (0, .ref m0), (1, .int 0)]) hx hb dX8_write_55 rfl hl (by decide) rfl (fun ls hl => ?_)
      refine lv_goto (tgt := 18) hx hb dX8_write_56 (by decide) ?_
      refine lv_iload_n hx hb dX8_write_18 rfl (lv_at hl 0 rfl) ?_
      refine lv_if_le (tgt := 59) hx hb dX8_write_19 (by decide) (fun c_19_9 => ?_) (fun c_19_9 => ?_)
      · have t_19_9 := c_19_9
        try simp only [kb_eq0, kb_ne0, lg_cmp_lt, lg_cmp_le, lg_cmp_gt, lg_cmp_ge, lg_cmp_eq] at t_19_9
        try simp only [Int32.lt_iff_toInt_lt, Int32.le_iff_toInt_le, ← Int32.toInt_inj, Int64.lt_iff_toInt_lt, Int64.le_iff_toInt_le, ← Int64.toInt_inj, Int32.toInt_toInt64, Int32.reduceToInt, Int64.reduceToInt] at t_19_9
        refine kVret (u := ()) hx hb hr hlocks hS dX8_write_59 ?_ (hP.sub [0, 1] rfl) (hD.sub [0, 1] (by decide) rfl)
        exact trivial
      · exact absurd (by decide) c_19_9
  · exact absurd (by decide) c_7_1
set_option maxRecDepth 100000 in
set_option maxHeartbeats 4000000 in
theorem r_writeZ_5 (l : Launch) (D : va_G) (cI cL cB cZ cT : ClassId) (sz : Nat) (m0 mH mI mJ mS mD mX mA mB mW mL : Nat) (fw : Nat → Int32) : kM (S := Unit) l yX8_write wsX8_write ({ frames := 0, cells := 0, slots := 0, locals := 0 }) D (kT cI cL cB cZ cT) [.ref m0, .int 0] [(m0, .inr (8, [.ref mH, .int 0, .long 0, .int 0, .long 0, .int 0, .int 0, .int 0, .int 0, .int 0, .int 0, .long 0, .int 0, .int 0, .ref mI, .ref mJ, .ref mS, .ref mD, .int 0, .int 0, .int 0, .long 0, .ref mX, .int 0, .int 0, .int 0, .ref mA, .ref mB, .ref mW, .ref mL, .int 5])), (mL, .inl (cB, 16, .inl fw))] sz eV (fun _ _ => True) (fun _ => [(m0, .inr (8, [.ref mH, .int 0, .long 0, .int 0, .long 0, .int 0, .int 0, .int 0, .int 0, .int 0, .int 0, .long 0, .int 0, .int 0, .ref mI, .ref mJ, .ref mS, .ref mD, .int 0, .int 0, .int 0, .long 0, .ref mX, .int 0, .int 0, .int 0, .ref mA, .ref mB, .ref mW, .ref mL, .int 6])), (mL, .inl (cB, 16, .inl (upd fw (5 : Int32).toNatClampNeg (vp_nar .byte 48))))]) 0 0 := by
  refine kStart (cc := cX8_write) (maxL := 3) (ret := none) (own := RX8) (by decide) rfl rfl (Nat.le_of_ble_eq_true rfl) ?_
  intro p e s m args below meth c A ls hx hb hr hml hown hts hlocks hnm hsz hA hG hP hD hS hl
  have hK := hG.1
  have hl : lv_has ls 3 [(0, .ref m0), (1, .int 0)] := hl
  refine lv_iconst (v := 1) hx hb dX8_write_0 (by decide) ?_
  refine lv_istore_n (lv' := [(2, .int 1), (0, .ref m0), (1, .int 0)]) hx hb dX8_write_1 rfl hl (by decide) rfl (fun ls hl => ?_)
  refine lv_iload_n hx hb dX8_write_2 rfl (lv_at hl 2 rfl) ?_
  refine lv_iload_n hx hb dX8_write_3 rfl (lv_at hl 0 rfl) ?_
  refine lv_idiv hx hb dX8_write_4 (by decide) ?_
  refine lv_topi (fun x_1 ex_1 => ?_)
  obtain rfl : x_1 = 0 := ex_1.trans (by decide)
  refine lv_bipush (v := 9) hx hb dX8_write_5 (by decide) ?_
  refine lv_icmp_le (tgt := 18) hx hb dX8_write_7 (by decide) (fun c_7_1 => ?_) (fun c_7_1 => ?_)
  · have t_7_1 := c_7_1
    try simp only [kb_eq0, kb_ne0, lg_cmp_lt, lg_cmp_le, lg_cmp_gt, lg_cmp_ge, lg_cmp_eq] at t_7_1
    try simp only [Int32.lt_iff_toInt_lt, Int32.le_iff_toInt_le, ← Int32.toInt_inj, Int64.lt_iff_toInt_lt, Int64.le_iff_toInt_le, ← Int64.toInt_inj, Int32.toInt_toInt64, Int32.reduceToInt, Int64.reduceToInt] at t_7_1
    refine lv_iload_n hx hb dX8_write_18 rfl (lv_at hl 0 rfl) ?_
    refine lv_if_le (tgt := 59) hx hb dX8_write_19 (by decide) (fun c_19_2 => ?_) (fun c_19_2 => ?_)
    · exact absurd c_19_2 (by decide)
    · have t_19_2 := c_19_2
      try simp only [kb_eq0, kb_ne0, lg_cmp_lt, lg_cmp_le, lg_cmp_gt, lg_cmp_ge, lg_cmp_eq] at t_19_2
      try simp only [Int32.lt_iff_toInt_lt, Int32.le_iff_toInt_le, ← Int32.toInt_inj, Int64.lt_iff_toInt_lt, Int64.le_iff_toInt_le, ← Int64.toInt_inj, Int32.toInt_toInt64, Int32.reduceToInt, Int64.reduceToInt] at t_19_2
      refine lv_aload_n hx hb dX8_write_22 rfl (lv_at hl 1 rfl) ?_
      refine va_get (D := D) (ci := 8) (v := .ref mL) (C := RX8) (T := TX8) (N := 31) hx hb hts iX8_write_X8 hown hK hP 0 rfl rfl 29 (by decide) (hts (.fieldLink RX8 40 "TapeCalculatorModel" "line" "[B") (List.mem_of_getElem? (i := 1) rfl)) (fun _ h9 => h9) rfl dX8_write_23 ?_
      refine lv_aload_n hx hb dX8_write_26 rfl (lv_at hl 1 rfl) ?_
      refine va_get (D := D) (ci := 8) (v := .int 5) (C := RX8) (T := TX8) (N := 31) hx hb hts iX8_write_X8 hown hK hP 0 rfl rfl 30 (by decide) (hts (.fieldLink RX8 285 "TapeCalculatorModel" "lineSize" "I") (List.mem_of_getElem? (i := 2) rfl)) (fun _ h9 => h9) rfl dX8_write_27 ?_
      refine lv_bipush (v := 48) hx hb dX8_write_30 (by decide) ?_
      refine lv_iload_n hx hb dX8_write_32 rfl (lv_at hl 2 rfl) ?_
      refine lv_iload_n hx hb dX8_write_33 rfl (lv_at hl 0 rfl) ?_
      refine lv_idiv hx hb dX8_write_34 (by decide) ?_
      refine lv_topi (fun x_4 ex_4 => ?_)
      obtain rfl : x_4 = 0 := ex_4.trans (by decide)
      refine lv_bipush (v := 10) hx hb dX8_write_35 (by decide) ?_
      refine lv_irem hx hb dX8_write_37 (by decide) ?_
      refine lv_topi (fun x_5 ex_5 => ?_)
      obtain rfl : x_5 = 0 := ex_5.trans (by decide)
      refine lv_iadd hx hb dX8_write_38 ?_
      refine lv_topi (fun x_6 ex_6 => ?_)
      obtain rfl : x_6 = 48 := ex_6.trans (by decide)
      refine lv_i2b hx hb dX8_write_39 rfl ?_
      refine lv_topi (fun x_7 ex_7 => ?_)
      obtain rfl : x_7 = 48 := ex_7.trans (by decide)
      refine va_bast hx hb hK hP hD hS 1 2 rfl rfl (vp_in_iff.mpr (by decide)) dX8_write_40 (fun H locs hP hD hS => ?_)
      have hP : va_P D vwCl [(m0, .inr (8, [.ref mH, .int 0, .long 0, .int 0, .long 0, .int 0, .int 0, .int 0, .int 0, .int 0, .int 0, .long 0, .int 0, .int 0, .ref mI, .ref mJ, .ref mS, .ref mD, .int 0, .int 0, .int 0, .long 0, .ref mX, .int 0, .int 0, .int 0, .ref mA, .ref mB, .ref mW, .ref mL, .int 5])), (mL, .inl (cB, 16, .inl (upd fw (5 : Int32).toNatClampNeg (vp_nar .byte 48))))] H := hP
      have hD : va_D A [(m0, .inr (8, [.ref mH, .int 0, .long 0, .int 0, .long 0, .int 0, .int 0, .int 0, .int 0, .int 0, .int 0, .long 0, .int 0, .int 0, .ref mI, .ref mJ, .ref mS, .ref mD, .int 0, .int 0, .int 0, .long 0, .ref mX, .int 0, .int 0, .int 0, .ref mA, .ref mB, .ref mW, .ref mL, .int 5])), (mL, .inl (cB, 16, .inl (upd fw (5 : Int32).toNatClampNeg (vp_nar .byte 48))))] := hD
      refine lv_aload_n hx hb dX8_write_41 rfl (lv_at hl 1 rfl) ?_
      refine lv_dup hx hb dX8_write_42 rfl ?_
      refine va_get (D := D) (ci := 8) (v := .int 5) (C := RX8) (T := TX8) (N := 31) hx hb hts iX8_write_X8 hown hK hP 0 rfl rfl 30 (by decide) (hts (.fieldLink RX8 285 "TapeCalculatorModel" "lineSize" "I") (List.mem_of_getElem? (i := 2) rfl)) (fun _ h9 => h9) rfl dX8_write_43 ?_
      refine lv_iconst (v := 1) hx hb dX8_write_46 (by decide) ?_
      refine lv_iadd hx hb dX8_write_47 ?_
      refine lv_topi (fun x_8 ex_8 => ?_)
      obtain rfl : x_8 = 6 := ex_8.trans (by decide)
      refine va_put (D := D) (ci := 8) (v := .int 6) (ty := .int) (C := RX8) (T := TX8) (N := 31) hx hb hts iX8_write_X8 tyX8 tyX8_ok nmX8 hown hK hP hD hS 0 rfl rfl 30 (by decide) (hts (.fieldLink RX8 285 "TapeCalculatorModel" "lineSize" "I") (List.mem_of_getElem? (i := 2) rfl)) (fun _ h9 => h9) rfl (by decide +kernel) rfl rfl (Nat.le_of_ble_eq_true rfl) dX8_write_48 (fun H locs hP hD hS => ?_)
      have hP : va_P D vwCl [(m0, .inr (8, [.ref mH, .int 0, .long 0, .int 0, .long 0, .int 0, .int 0, .int 0, .int 0, .int 0, .int 0, .long 0, .int 0, .int 0, .ref mI, .ref mJ, .ref mS, .ref mD, .int 0, .int 0, .int 0, .long 0, .ref mX, .int 0, .int 0, .int 0, .ref mA, .ref mB, .ref mW, .ref mL, .int 6])), (mL, .inl (cB, 16, .inl (upd fw (5 : Int32).toNatClampNeg (vp_nar .byte 48))))] H := hP
      have hD : va_D A [(m0, .inr (8, [.ref mH, .int 0, .long 0, .int 0, .long 0, .int 0, .int 0, .int 0, .int 0, .int 0, .int 0, .long 0, .int 0, .int 0, .ref mI, .ref mJ, .ref mS, .ref mD, .int 0, .int 0, .int 0, .long 0, .ref mX, .int 0, .int 0, .int 0, .ref mA, .ref mB, .ref mW, .ref mL, .int 6])), (mL, .inl (cB, 16, .inl (upd fw (5 : Int32).toNatClampNeg (vp_nar .byte 48))))] := hD
      refine lv_iload_n hx hb dX8_write_51 rfl (lv_at hl 0 rfl) ?_
      refine lv_bipush (v := 10) hx hb dX8_write_52 (by decide) ?_
      refine lv_idiv hx hb dX8_write_54 (by decide) ?_
      refine lv_topi (fun x_9 ex_9 => ?_)
      obtain rfl : x_9 = 0 := ex_9.trans (by decide)
      refine lv_istore_n (lv' := [(2, .int 0), (0, .ref m0), (1, .int 0)]) hx hb dX8_write_55 rfl hl (by decide) rfl (fun ls hl => ?_)
      refine lv_goto (tgt := 18) hx hb dX8_write_56 (by decide) ?_
      refine lv_iload_n hx hb dX8_write_18 rfl (lv_at hl 0 rfl) ?_
      refine lv_if_le (tgt := 59) hx hb dX8_write_19 (by decide) (fun c_19_9 => ?_) (fun c_19_9 => ?_)
      · have t_19_9 := c_19_9
        try simp only [kb_eq0, kb_ne0, lg_cmp_lt, lg_cmp_le, lg_cmp_gt, lg_cmp_ge, lg_cmp_eq] at t_19_9
        try simp only [Int32.lt_iff_toInt_lt, Int32.le_iff_toInt_le, ← Int32.toInt_inj, Int64.lt_iff_toInt_lt, Int64.le_iff_toInt_le, ← Int64.toInt_inj, Int32.toInt_toInt64, Int32.reduceToInt, Int64.reduceToInt] at t_19_9
        refine kVret (u := ()) hx hb hr hlocks hS dX8_write_59 ?_ (hP.sub [0, 1] rfl) (hD.sub [0, 1] (by decide) rfl)
        exact trivial
      · exact absurd (by decide) c_19_9
  · exact absurd (by decide) c_7_1
set_option maxRecDepth 100000 in
set_option maxHeartbeats 4000000 in
theorem r_writeZ_6 (l : Launch) (D : va_G) (cI cL cB cZ cT : ClassId) (sz : Nat) (m0 mH mI mJ mS mD mX mA mB mW mL : Nat) (fw : Nat → Int32) : kM (S := Unit) l yX8_write wsX8_write ({ frames := 0, cells := 0, slots := 0, locals := 0 }) D (kT cI cL cB cZ cT) [.ref m0, .int 0] [(m0, .inr (8, [.ref mH, .int 0, .long 0, .int 0, .long 0, .int 0, .int 0, .int 0, .int 0, .int 0, .int 0, .long 0, .int 0, .int 0, .ref mI, .ref mJ, .ref mS, .ref mD, .int 0, .int 0, .int 0, .long 0, .ref mX, .int 0, .int 0, .int 0, .ref mA, .ref mB, .ref mW, .ref mL, .int 6])), (mL, .inl (cB, 16, .inl fw))] sz eV (fun _ _ => True) (fun _ => [(m0, .inr (8, [.ref mH, .int 0, .long 0, .int 0, .long 0, .int 0, .int 0, .int 0, .int 0, .int 0, .int 0, .long 0, .int 0, .int 0, .ref mI, .ref mJ, .ref mS, .ref mD, .int 0, .int 0, .int 0, .long 0, .ref mX, .int 0, .int 0, .int 0, .ref mA, .ref mB, .ref mW, .ref mL, .int 7])), (mL, .inl (cB, 16, .inl (upd fw (6 : Int32).toNatClampNeg (vp_nar .byte 48))))]) 0 0 := by
  refine kStart (cc := cX8_write) (maxL := 3) (ret := none) (own := RX8) (by decide) rfl rfl (Nat.le_of_ble_eq_true rfl) ?_
  intro p e s m args below meth c A ls hx hb hr hml hown hts hlocks hnm hsz hA hG hP hD hS hl
  have hK := hG.1
  have hl : lv_has ls 3 [(0, .ref m0), (1, .int 0)] := hl
  refine lv_iconst (v := 1) hx hb dX8_write_0 (by decide) ?_
  refine lv_istore_n (lv' := [(2, .int 1), (0, .ref m0), (1, .int 0)]) hx hb dX8_write_1 rfl hl (by decide) rfl (fun ls hl => ?_)
  refine lv_iload_n hx hb dX8_write_2 rfl (lv_at hl 2 rfl) ?_
  refine lv_iload_n hx hb dX8_write_3 rfl (lv_at hl 0 rfl) ?_
  refine lv_idiv hx hb dX8_write_4 (by decide) ?_
  refine lv_topi (fun x_1 ex_1 => ?_)
  obtain rfl : x_1 = 0 := ex_1.trans (by decide)
  refine lv_bipush (v := 9) hx hb dX8_write_5 (by decide) ?_
  refine lv_icmp_le (tgt := 18) hx hb dX8_write_7 (by decide) (fun c_7_1 => ?_) (fun c_7_1 => ?_)
  · have t_7_1 := c_7_1
    try simp only [kb_eq0, kb_ne0, lg_cmp_lt, lg_cmp_le, lg_cmp_gt, lg_cmp_ge, lg_cmp_eq] at t_7_1
    try simp only [Int32.lt_iff_toInt_lt, Int32.le_iff_toInt_le, ← Int32.toInt_inj, Int64.lt_iff_toInt_lt, Int64.le_iff_toInt_le, ← Int64.toInt_inj, Int32.toInt_toInt64, Int32.reduceToInt, Int64.reduceToInt] at t_7_1
    refine lv_iload_n hx hb dX8_write_18 rfl (lv_at hl 0 rfl) ?_
    refine lv_if_le (tgt := 59) hx hb dX8_write_19 (by decide) (fun c_19_2 => ?_) (fun c_19_2 => ?_)
    · exact absurd c_19_2 (by decide)
    · have t_19_2 := c_19_2
      try simp only [kb_eq0, kb_ne0, lg_cmp_lt, lg_cmp_le, lg_cmp_gt, lg_cmp_ge, lg_cmp_eq] at t_19_2
      try simp only [Int32.lt_iff_toInt_lt, Int32.le_iff_toInt_le, ← Int32.toInt_inj, Int64.lt_iff_toInt_lt, Int64.le_iff_toInt_le, ← Int64.toInt_inj, Int32.toInt_toInt64, Int32.reduceToInt, Int64.reduceToInt] at t_19_2
      refine lv_aload_n hx hb dX8_write_22 rfl (lv_at hl 1 rfl) ?_
      refine va_get (D := D) (ci := 8) (v := .ref mL) (C := RX8) (T := TX8) (N := 31) hx hb hts iX8_write_X8 hown hK hP 0 rfl rfl 29 (by decide) (hts (.fieldLink RX8 40 "TapeCalculatorModel" "line" "[B") (List.mem_of_getElem? (i := 1) rfl)) (fun _ h9 => h9) rfl dX8_write_23 ?_
      refine lv_aload_n hx hb dX8_write_26 rfl (lv_at hl 1 rfl) ?_
      refine va_get (D := D) (ci := 8) (v := .int 6) (C := RX8) (T := TX8) (N := 31) hx hb hts iX8_write_X8 hown hK hP 0 rfl rfl 30 (by decide) (hts (.fieldLink RX8 285 "TapeCalculatorModel" "lineSize" "I") (List.mem_of_getElem? (i := 2) rfl)) (fun _ h9 => h9) rfl dX8_write_27 ?_
      refine lv_bipush (v := 48) hx hb dX8_write_30 (by decide) ?_
      refine lv_iload_n hx hb dX8_write_32 rfl (lv_at hl 2 rfl) ?_
      refine lv_iload_n hx hb dX8_write_33 rfl (lv_at hl 0 rfl) ?_
      refine lv_idiv hx hb dX8_write_34 (by decide) ?_
      refine lv_topi (fun x_4 ex_4 => ?_)
      obtain rfl : x_4 = 0 := ex_4.trans (by decide)
      refine lv_bipush (v := 10) hx hb dX8_write_35 (by decide) ?_
      refine lv_irem hx hb dX8_write_37 (by decide) ?_
      refine lv_topi (fun x_5 ex_5 => ?_)
      obtain rfl : x_5 = 0 := ex_5.trans (by decide)
      refine lv_iadd hx hb dX8_write_38 ?_
      refine lv_topi (fun x_6 ex_6 => ?_)
      obtain rfl : x_6 = 48 := ex_6.trans (by decide)
      refine lv_i2b hx hb dX8_write_39 rfl ?_
      refine lv_topi (fun x_7 ex_7 => ?_)
      obtain rfl : x_7 = 48 := ex_7.trans (by decide)
      refine va_bast hx hb hK hP hD hS 1 2 rfl rfl (vp_in_iff.mpr (by decide)) dX8_write_40 (fun H locs hP hD hS => ?_)
      have hP : va_P D vwCl [(m0, .inr (8, [.ref mH, .int 0, .long 0, .int 0, .long 0, .int 0, .int 0, .int 0, .int 0, .int 0, .int 0, .long 0, .int 0, .int 0, .ref mI, .ref mJ, .ref mS, .ref mD, .int 0, .int 0, .int 0, .long 0, .ref mX, .int 0, .int 0, .int 0, .ref mA, .ref mB, .ref mW, .ref mL, .int 6])), (mL, .inl (cB, 16, .inl (upd fw (6 : Int32).toNatClampNeg (vp_nar .byte 48))))] H := hP
      have hD : va_D A [(m0, .inr (8, [.ref mH, .int 0, .long 0, .int 0, .long 0, .int 0, .int 0, .int 0, .int 0, .int 0, .int 0, .long 0, .int 0, .int 0, .ref mI, .ref mJ, .ref mS, .ref mD, .int 0, .int 0, .int 0, .long 0, .ref mX, .int 0, .int 0, .int 0, .ref mA, .ref mB, .ref mW, .ref mL, .int 6])), (mL, .inl (cB, 16, .inl (upd fw (6 : Int32).toNatClampNeg (vp_nar .byte 48))))] := hD
      refine lv_aload_n hx hb dX8_write_41 rfl (lv_at hl 1 rfl) ?_
      refine lv_dup hx hb dX8_write_42 rfl ?_
      refine va_get (D := D) (ci := 8) (v := .int 6) (C := RX8) (T := TX8) (N := 31) hx hb hts iX8_write_X8 hown hK hP 0 rfl rfl 30 (by decide) (hts (.fieldLink RX8 285 "TapeCalculatorModel" "lineSize" "I") (List.mem_of_getElem? (i := 2) rfl)) (fun _ h9 => h9) rfl dX8_write_43 ?_
      refine lv_iconst (v := 1) hx hb dX8_write_46 (by decide) ?_
      refine lv_iadd hx hb dX8_write_47 ?_
      refine lv_topi (fun x_8 ex_8 => ?_)
      obtain rfl : x_8 = 7 := ex_8.trans (by decide)
      refine va_put (D := D) (ci := 8) (v := .int 7) (ty := .int) (C := RX8) (T := TX8) (N := 31) hx hb hts iX8_write_X8 tyX8 tyX8_ok nmX8 hown hK hP hD hS 0 rfl rfl 30 (by decide) (hts (.fieldLink RX8 285 "TapeCalculatorModel" "lineSize" "I") (List.mem_of_getElem? (i := 2) rfl)) (fun _ h9 => h9) rfl (by decide +kernel) rfl rfl (Nat.le_of_ble_eq_true rfl) dX8_write_48 (fun H locs hP hD hS => ?_)
      have hP : va_P D vwCl [(m0, .inr (8, [.ref mH, .int 0, .long 0, .int 0, .long 0, .int 0, .int 0, .int 0, .int 0, .int 0, .int 0, .long 0, .int 0, .int 0, .ref mI, .ref mJ, .ref mS, .ref mD, .int 0, .int 0, .int 0, .long 0, .ref mX, .int 0, .int 0, .int 0, .ref mA, .ref mB, .ref mW, .ref mL, .int 7])), (mL, .inl (cB, 16, .inl (upd fw (6 : Int32).toNatClampNeg (vp_nar .byte 48))))] H := hP
      have hD : va_D A [(m0, .inr (8, [.ref mH, .int 0, .long 0, .int 0, .long 0, .int 0, .int 0, .int 0, .int 0, .int 0, .int 0, .long 0, .int 0, .int 0, .ref mI, .ref mJ, .ref mS, .ref mD, .int 0, .int 0, .int 0, .long 0, .ref mX, .int 0, .int 0, .int 0, .ref mA, .ref mB, .ref mW, .ref mL, .int 7])), (mL, .inl (cB, 16, .inl (upd fw (6 : Int32).toNatClampNeg (vp_nar .byte 48))))] := hD
      refine lv_iload_n hx hb dX8_write_51 rfl (lv_at hl 0 rfl) ?_
      refine lv_bipush (v := 10) hx hb dX8_write_52 (by decide) ?_
      refine lv_idiv hx hb dX8_write_54 (by decide) ?_
      refine lv_topi (fun x_9 ex_9 => ?_)
      obtain rfl : x_9 = 0 := ex_9.trans (by decide)
      refine lv_istore_n (lv' := [(2, .int 0), (0, .ref m0), (1, .int 0)]) hx hb dX8_write_55 rfl hl (by decide) rfl (fun ls hl => ?_)
      refine lv_goto (tgt := 18) hx hb dX8_write_56 (by decide) ?_
      refine lv_iload_n hx hb dX8_write_18 rfl (lv_at hl 0 rfl) ?_
      refine lv_if_le (tgt := 59) hx hb dX8_write_19 (by decide) (fun c_19_9 => ?_) (fun c_19_9 => ?_)
      · have t_19_9 := c_19_9
        try simp only [kb_eq0, kb_ne0, lg_cmp_lt, lg_cmp_le, lg_cmp_gt, lg_cmp_ge, lg_cmp_eq] at t_19_9
        try simp only [Int32.lt_iff_toInt_lt, Int32.le_iff_toInt_le, ← Int32.toInt_inj, Int64.lt_iff_toInt_lt, Int64.le_iff_toInt_le, ← Int64.toInt_inj, Int32.toInt_toInt64, Int32.reduceToInt, Int64.reduceToInt] at t_19_9
        refine kVret (u := ()) hx hb hr hlocks hS dX8_write_59 ?_ (hP.sub [0, 1] rfl) (hD.sub [0, 1] (by decide) rfl)
        exact trivial
      · exact absurd (by decide) c_19_9
  · exact absurd (by decide) c_7_1
set_option maxRecDepth 100000 in
set_option maxHeartbeats 4000000 in
theorem r_writeZ_7 (l : Launch) (D : va_G) (cI cL cB cZ cT : ClassId) (sz : Nat) (m0 mH mI mJ mS mD mX mA mB mW mL : Nat) (fw : Nat → Int32) : kM (S := Unit) l yX8_write wsX8_write ({ frames := 0, cells := 0, slots := 0, locals := 0 }) D (kT cI cL cB cZ cT) [.ref m0, .int 0] [(m0, .inr (8, [.ref mH, .int 0, .long 0, .int 0, .long 0, .int 0, .int 0, .int 0, .int 0, .int 0, .int 0, .long 0, .int 0, .int 0, .ref mI, .ref mJ, .ref mS, .ref mD, .int 0, .int 0, .int 0, .long 0, .ref mX, .int 0, .int 0, .int 0, .ref mA, .ref mB, .ref mW, .ref mL, .int 7])), (mL, .inl (cB, 16, .inl fw))] sz eV (fun _ _ => True) (fun _ => [(m0, .inr (8, [.ref mH, .int 0, .long 0, .int 0, .long 0, .int 0, .int 0, .int 0, .int 0, .int 0, .int 0, .long 0, .int 0, .int 0, .ref mI, .ref mJ, .ref mS, .ref mD, .int 0, .int 0, .int 0, .long 0, .ref mX, .int 0, .int 0, .int 0, .ref mA, .ref mB, .ref mW, .ref mL, .int 8])), (mL, .inl (cB, 16, .inl (upd fw (7 : Int32).toNatClampNeg (vp_nar .byte 48))))]) 0 0 := by
  refine kStart (cc := cX8_write) (maxL := 3) (ret := none) (own := RX8) (by decide) rfl rfl (Nat.le_of_ble_eq_true rfl) ?_
  intro p e s m args below meth c A ls hx hb hr hml hown hts hlocks hnm hsz hA hG hP hD hS hl
  have hK := hG.1
  have hl : lv_has ls 3 [(0, .ref m0), (1, .int 0)] := hl
  refine lv_iconst (v := 1) hx hb dX8_write_0 (by decide) ?_
  refine lv_istore_n (lv' := [(2, .int 1), (0, .ref m0), (1, .int 0)]) hx hb dX8_write_1 rfl hl (by decide) rfl (fun ls hl => ?_)
  refine lv_iload_n hx hb dX8_write_2 rfl (lv_at hl 2 rfl) ?_
  refine lv_iload_n hx hb dX8_write_3 rfl (lv_at hl 0 rfl) ?_
  refine lv_idiv hx hb dX8_write_4 (by decide) ?_
  refine lv_topi (fun x_1 ex_1 => ?_)
  obtain rfl : x_1 = 0 := ex_1.trans (by decide)
  refine lv_bipush (v := 9) hx hb dX8_write_5 (by decide) ?_
  refine lv_icmp_le (tgt := 18) hx hb dX8_write_7 (by decide) (fun c_7_1 => ?_) (fun c_7_1 => ?_)
  · have t_7_1 := c_7_1
    try simp only [kb_eq0, kb_ne0, lg_cmp_lt, lg_cmp_le, lg_cmp_gt, lg_cmp_ge, lg_cmp_eq] at t_7_1
    try simp only [Int32.lt_iff_toInt_lt, Int32.le_iff_toInt_le, ← Int32.toInt_inj, Int64.lt_iff_toInt_lt, Int64.le_iff_toInt_le, ← Int64.toInt_inj, Int32.toInt_toInt64, Int32.reduceToInt, Int64.reduceToInt] at t_7_1
    refine lv_iload_n hx hb dX8_write_18 rfl (lv_at hl 0 rfl) ?_
    refine lv_if_le (tgt := 59) hx hb dX8_write_19 (by decide) (fun c_19_2 => ?_) (fun c_19_2 => ?_)
    · exact absurd c_19_2 (by decide)
    · have t_19_2 := c_19_2
      try simp only [kb_eq0, kb_ne0, lg_cmp_lt, lg_cmp_le, lg_cmp_gt, lg_cmp_ge, lg_cmp_eq] at t_19_2
      try simp only [Int32.lt_iff_toInt_lt, Int32.le_iff_toInt_le, ← Int32.toInt_inj, Int64.lt_iff_toInt_lt, Int64.le_iff_toInt_le, ← Int64.toInt_inj, Int32.toInt_toInt64, Int32.reduceToInt, Int64.reduceToInt] at t_19_2
      refine lv_aload_n hx hb dX8_write_22 rfl (lv_at hl 1 rfl) ?_
      refine va_get (D := D) (ci := 8) (v := .ref mL) (C := RX8) (T := TX8) (N := 31) hx hb hts iX8_write_X8 hown hK hP 0 rfl rfl 29 (by decide) (hts (.fieldLink RX8 40 "TapeCalculatorModel" "line" "[B") (List.mem_of_getElem? (i := 1) rfl)) (fun _ h9 => h9) rfl dX8_write_23 ?_
      refine lv_aload_n hx hb dX8_write_26 rfl (lv_at hl 1 rfl) ?_
      refine va_get (D := D) (ci := 8) (v := .int 7) (C := RX8) (T := TX8) (N := 31) hx hb hts iX8_write_X8 hown hK hP 0 rfl rfl 30 (by decide) (hts (.fieldLink RX8 285 "TapeCalculatorModel" "lineSize" "I") (List.mem_of_getElem? (i := 2) rfl)) (fun _ h9 => h9) rfl dX8_write_27 ?_
      refine lv_bipush (v := 48) hx hb dX8_write_30 (by decide) ?_
      refine lv_iload_n hx hb dX8_write_32 rfl (lv_at hl 2 rfl) ?_
      refine lv_iload_n hx hb dX8_write_33 rfl (lv_at hl 0 rfl) ?_
      refine lv_idiv hx hb dX8_write_34 (by decide) ?_
      refine lv_topi (fun x_4 ex_4 => ?_)
      obtain rfl : x_4 = 0 := ex_4.trans (by decide)
      refine lv_bipush (v := 10) hx hb dX8_write_35 (by decide) ?_
      refine lv_irem hx hb dX8_write_37 (by decide) ?_
      refine lv_topi (fun x_5 ex_5 => ?_)
      obtain rfl : x_5 = 0 := ex_5.trans (by decide)
      refine lv_iadd hx hb dX8_write_38 ?_
      refine lv_topi (fun x_6 ex_6 => ?_)
      obtain rfl : x_6 = 48 := ex_6.trans (by decide)
      refine lv_i2b hx hb dX8_write_39 rfl ?_
      refine lv_topi (fun x_7 ex_7 => ?_)
      obtain rfl : x_7 = 48 := ex_7.trans (by decide)
      refine va_bast hx hb hK hP hD hS 1 2 rfl rfl (vp_in_iff.mpr (by decide)) dX8_write_40 (fun H locs hP hD hS => ?_)
      have hP : va_P D vwCl [(m0, .inr (8, [.ref mH, .int 0, .long 0, .int 0, .long 0, .int 0, .int 0, .int 0, .int 0, .int 0, .int 0, .long 0, .int 0, .int 0, .ref mI, .ref mJ, .ref mS, .ref mD, .int 0, .int 0, .int 0, .long 0, .ref mX, .int 0, .int 0, .int 0, .ref mA, .ref mB, .ref mW, .ref mL, .int 7])), (mL, .inl (cB, 16, .inl (upd fw (7 : Int32).toNatClampNeg (vp_nar .byte 48))))] H := hP
      have hD : va_D A [(m0, .inr (8, [.ref mH, .int 0, .long 0, .int 0, .long 0, .int 0, .int 0, .int 0, .int 0, .int 0, .int 0, .long 0, .int 0, .int 0, .ref mI, .ref mJ, .ref mS, .ref mD, .int 0, .int 0, .int 0, .long 0, .ref mX, .int 0, .int 0, .int 0, .ref mA, .ref mB, .ref mW, .ref mL, .int 7])), (mL, .inl (cB, 16, .inl (upd fw (7 : Int32).toNatClampNeg (vp_nar .byte 48))))] := hD
      refine lv_aload_n hx hb dX8_write_41 rfl (lv_at hl 1 rfl) ?_
      refine lv_dup hx hb dX8_write_42 rfl ?_
      refine va_get (D := D) (ci := 8) (v := .int 7) (C := RX8) (T := TX8) (N := 31) hx hb hts iX8_write_X8 hown hK hP 0 rfl rfl 30 (by decide) (hts (.fieldLink RX8 285 "TapeCalculatorModel" "lineSize" "I") (List.mem_of_getElem? (i := 2) rfl)) (fun _ h9 => h9) rfl dX8_write_43 ?_
      refine lv_iconst (v := 1) hx hb dX8_write_46 (by decide) ?_
      refine lv_iadd hx hb dX8_write_47 ?_
      refine lv_topi (fun x_8 ex_8 => ?_)
      obtain rfl : x_8 = 8 := ex_8.trans (by decide)
      refine va_put (D := D) (ci := 8) (v := .int 8) (ty := .int) (C := RX8) (T := TX8) (N := 31) hx hb hts iX8_write_X8 tyX8 tyX8_ok nmX8 hown hK hP hD hS 0 rfl rfl 30 (by decide) (hts (.fieldLink RX8 285 "TapeCalculatorModel" "lineSize" "I") (List.mem_of_getElem? (i := 2) rfl)) (fun _ h9 => h9) rfl (by decide +kernel) rfl rfl (Nat.le_of_ble_eq_true rfl) dX8_write_48 (fun H locs hP hD hS => ?_)
      have hP : va_P D vwCl [(m0, .inr (8, [.ref mH, .int 0, .long 0, .int 0, .long 0, .int 0, .int 0, .int 0, .int 0, .int 0, .int 0, .long 0, .int 0, .int 0, .ref mI, .ref mJ, .ref mS, .ref mD, .int 0, .int 0, .int 0, .long 0, .ref mX, .int 0, .int 0, .int 0, .ref mA, .ref mB, .ref mW, .ref mL, .int 8])), (mL, .inl (cB, 16, .inl (upd fw (7 : Int32).toNatClampNeg (vp_nar .byte 48))))] H := hP
      have hD : va_D A [(m0, .inr (8, [.ref mH, .int 0, .long 0, .int 0, .long 0, .int 0, .int 0, .int 0, .int 0, .int 0, .int 0, .long 0, .int 0, .int 0, .ref mI, .ref mJ, .ref mS, .ref mD, .int 0, .int 0, .int 0, .long 0, .ref mX, .int 0, .int 0, .int 0, .ref mA, .ref mB, .ref mW, .ref mL, .int 8])), (mL, .inl (cB, 16, .inl (upd fw (7 : Int32).toNatClampNeg (vp_nar .byte 48))))] := hD
      refine lv_iload_n hx hb dX8_write_51 rfl (lv_at hl 0 rfl) ?_
      refine lv_bipush (v := 10) hx hb dX8_write_52 (by decide) ?_
      refine lv_idiv hx hb dX8_write_54 (by decide) ?_
      refine lv_topi (fun x_9 ex_9 => ?_)
      obtain rfl : x_9 = 0 := ex_9.trans (by decide)
      refine lv_istore_n (lv' := [(2, .int 0), (0, .ref m0), (1, .int 0)]) hx hb dX8_write_55 rfl hl (by decide) rfl (fun ls hl => ?_)
      refine lv_goto (tgt := 18) hx hb dX8_write_56 (by decide) ?_
      refine lv_iload_n hx hb dX8_write_18 rfl (lv_at hl 0 rfl) ?_
      refine lv_if_le (tgt := 59) hx hb dX8_write_19 (by decide) (fun c_19_9 => ?_) (fun c_19_9 => ?_)
      · have t_19_9 := c_19_9
        try simp only [kb_eq0, kb_ne0, lg_cmp_lt, lg_cmp_le, lg_cmp_gt, lg_cmp_ge, lg_cmp_eq] at t_19_9
        try simp only [Int32.lt_iff_toInt_lt, Int32.le_iff_toInt_le, ← Int32.toInt_inj, Int64.lt_iff_toInt_lt, Int64.le_iff_toInt_le, ← Int64.toInt_inj, Int32.toInt_toInt64, Int32.reduceToInt, Int64.reduceToInt] at t_19_9
        refine kVret (u := ()) hx hb hr hlocks hS dX8_write_59 ?_ (hP.sub [0, 1] rfl) (hD.sub [0, 1] (by decide) rfl)
        exact trivial
      · exact absurd (by decide) c_19_9
  · exact absurd (by decide) c_7_1
def kRv (n : Int32) : Nat → Int32 := if n.toInt < 10 then (upd (upd (upd (upd (upd (fun _ => 0) (0 : Int32).toNatClampNeg (vp_nar .byte (48 + ((n / 1) - (n / 1) / 10 * 10)).toInt8.toInt32)) (1 : Int32).toNatClampNeg (vp_nar .byte 32)) (2 : Int32).toNatClampNeg (vp_nar .byte 48)) (3 : Int32).toNatClampNeg (vp_nar .byte 43)) (4 : Int32).toNatClampNeg (vp_nar .byte 48)) else if n.toInt < 100 then (upd (upd (upd (upd (upd (upd (fun _ => 0) (0 : Int32).toNatClampNeg (vp_nar .byte (48 + ((n / 10) - (n / 10) / 10 * 10)).toInt8.toInt32)) (1 : Int32).toNatClampNeg (vp_nar .byte (48 + ((n / 1) - (n / 1) / 10 * 10)).toInt8.toInt32)) (2 : Int32).toNatClampNeg (vp_nar .byte 32)) (3 : Int32).toNatClampNeg (vp_nar .byte 48)) (4 : Int32).toNatClampNeg (vp_nar .byte 43)) (5 : Int32).toNatClampNeg (vp_nar .byte 48)) else (upd (upd (upd (upd (upd (upd (upd (fun _ => 0) (0 : Int32).toNatClampNeg (vp_nar .byte (48 + ((n / 100) - (n / 100) / 10 * 10)).toInt8.toInt32)) (1 : Int32).toNatClampNeg (vp_nar .byte (48 + ((n / 10) - (n / 10) / 10 * 10)).toInt8.toInt32)) (2 : Int32).toNatClampNeg (vp_nar .byte (48 + ((n / 1) - (n / 1) / 10 * 10)).toInt8.toInt32)) (3 : Int32).toNatClampNeg (vp_nar .byte 32)) (4 : Int32).toNatClampNeg (vp_nar .byte 48)) (5 : Int32).toNatClampNeg (vp_nar .byte 43)) (6 : Int32).toNatClampNeg (vp_nar .byte 48))
theorem kRv_1 {n : Int32} (h : n.toInt < 10) : kRv n = (upd (upd (upd (upd (upd (fun _ => 0) (0 : Int32).toNatClampNeg (vp_nar .byte (48 + ((n / 1) - (n / 1) / 10 * 10)).toInt8.toInt32)) (1 : Int32).toNatClampNeg (vp_nar .byte 32)) (2 : Int32).toNatClampNeg (vp_nar .byte 48)) (3 : Int32).toNatClampNeg (vp_nar .byte 43)) (4 : Int32).toNatClampNeg (vp_nar .byte 48)) := if_pos h
theorem kRv_2 {n : Int32} (h : ¬ n.toInt < 10) (h2 : n.toInt < 100) : kRv n = (upd (upd (upd (upd (upd (upd (fun _ => 0) (0 : Int32).toNatClampNeg (vp_nar .byte (48 + ((n / 10) - (n / 10) / 10 * 10)).toInt8.toInt32)) (1 : Int32).toNatClampNeg (vp_nar .byte (48 + ((n / 1) - (n / 1) / 10 * 10)).toInt8.toInt32)) (2 : Int32).toNatClampNeg (vp_nar .byte 32)) (3 : Int32).toNatClampNeg (vp_nar .byte 48)) (4 : Int32).toNatClampNeg (vp_nar .byte 43)) (5 : Int32).toNatClampNeg (vp_nar .byte 48)) := (if_neg h).trans (if_pos h2)
theorem kRv_3 {n : Int32} (h : ¬ n.toInt < 10) (h2 : ¬ n.toInt < 100) : kRv n = (upd (upd (upd (upd (upd (upd (upd (fun _ => 0) (0 : Int32).toNatClampNeg (vp_nar .byte (48 + ((n / 100) - (n / 100) / 10 * 10)).toInt8.toInt32)) (1 : Int32).toNatClampNeg (vp_nar .byte (48 + ((n / 10) - (n / 10) / 10 * 10)).toInt8.toInt32)) (2 : Int32).toNatClampNeg (vp_nar .byte (48 + ((n / 1) - (n / 1) / 10 * 10)).toInt8.toInt32)) (3 : Int32).toNatClampNeg (vp_nar .byte 32)) (4 : Int32).toNatClampNeg (vp_nar .byte 48)) (5 : Int32).toNatClampNeg (vp_nar .byte 43)) (6 : Int32).toNatClampNeg (vp_nar .byte 48)) := (if_neg h).trans (if_neg h2)
set_option maxRecDepth 100000 in
theorem iX8_written_X8 : ∀ w ∈ wsX80, w ∈ wsX8_written := fun w h => (goodIn_r (big := wsX8_written) wsX80 [13, 14, 15, 16, 17, 18, 19, 20, 21, 22, 23, 24, 25, 26, 27, 28, 29, 30, 31, 32, 33, 34, 35, 36, 37, 38, 39, 40, 41, 42, 43] rfl (by decide +kernel) w h).1
set_option maxRecDepth 100000 in
set_option maxHeartbeats 4000000 in
theorem r_written (l : Launch) (D : va_G) (cI cL cB cZ cT : ClassId) (sz : Nat) (m0 mH mI mJ mS mD mX mA mB mW mL : Nat) (n i : Int32) : kM (S := (Int32 × (Nat → Int32))) l yX8_written wsX8_written ({ frames := 1, cells := 0, slots := 0, locals := 25 }) D (kT cI cL cB cZ cT) [.ref m0, .int n, .int i] [(m0, .inr (8, [.ref mH, .int 0, .long 0, .int 0, .long 0, .int 0, .int 0, .int 0, .int 0, .int 0, .int 0, .long 0, .int 0, .int 0, .ref mI, .ref mJ, .ref mS, .ref mD, .int 0, .int 0, .int 0, .long 0, .ref mX, .int 0, .int 0, .int 0, .ref mA, .ref mB, .ref mW, .ref mL, .int 0])), (mH, .inl (cI, 512, .inl (fun _ => 0))), (mL, .inl (cB, 16, .inl (fun _ => 0)))] sz eI (fun r _ => r = (kif ((0 ≤ n.toInt ∧ n.toInt < 512) ∧ 0 ≤ i.toInt) (kif (0 ≤ i.toInt ∧ i.toInt < (kLn n).toInt) (kRv n i.toNatClampNeg) (-9)) (-1))) (fun u => [(m0, .inr (8, [.ref mH, .int 0, .long 0, .int 0, .long 0, .int 0, .int 0, .int 0, .int 0, .int 0, .int 0, .long 0, .int 0, .int 0, .ref mI, .ref mJ, .ref mS, .ref mD, .int 0, .int 0, .int 0, .long 0, .ref mX, .int 0, .int 0, .int 0, .ref mA, .ref mB, .ref mW, .ref mL, .int u.1])), (mH, .inl (cI, 512, .inl (fun _ => 0))), (mL, .inl (cB, 16, .inl u.2))]) 0 0 := by
  refine kStart (cc := cX8_written) (maxL := 3) (ret := (some .int)) (own := RX8) (by decide) rfl rfl (Nat.le_of_ble_eq_true rfl) ?_
  intro p e s m args below meth c A ls hx hb hr hml hown hts hlocks hnm hsz hA hG hP hD hS hl
  have hK := hG.1
  have hl : lv_has ls 3 [(0, .ref m0), (1, .int n), (2, .int i)] := hl
  refine lv_iload_n hx hb dX8_written_0 rfl (lv_at hl 1 rfl) ?_
  refine lv_i2l hx hb dX8_written_1 rfl ?_
  refine lv_lconst (v := 0) hx hb dX8_written_2 (by decide) ?_
  refine lv_ldc2 (v := 511) hx hb hown (hts (.constantLong RX8 47 (511)) (List.mem_of_getElem? (i := 1) rfl)) dX8_written_3 ?_
  refine kCallI (wr := [(m0, .inr (8, [.ref mH, .int 0, .long 0, .int 0, .long 0, .int 0, .int 0, .int 0, .int 0, .int 0, .int 0, .long 0, .int 0, .int 0, .ref mI, .ref mJ, .ref mS, .ref mD, .int 0, .int 0, .int 0, .long 0, .ref mX, .int 0, .int 0, .int 0, .ref mA, .ref mB, .ref mW, .ref mL, .int 0])), (mH, .inl (cI, 512, .inl (fun _ => 0))), (mL, .inl (cB, 16, .inl (fun _ => 0)))]) (va_runS (As := [.long n.toInt64, .long 0, .long 511]) (rest := []) ⟨hx, hb, hml, hown, hts⟩ (r_in l D cI cL cB cZ cT _ (n.toInt64) 0 511) (va_cwS 3 hts gX8_written_X8_in rfl rfl rfl (by decide +kernel) ⟨Nat.le_of_ble_eq_true rfl, Nat.le_of_ble_eq_true rfl⟩) (kPreS hG hP hD [] rfl (by decide)) rfl rfl hl.1 rfl (lv_room (Nat.le_of_ble_eq_true rfl)) dX8_written_6 ⟨Nat.le_of_ble_eq_true rfl, Nat.le_of_ble_eq_true rfl⟩) hA hP hD hS [] [0, 1, 2] rfl rfl (by decide) (by decide) (fun r_1 u_r_1 H locs wr_1 hP hD hS => ?_)
  have hP : va_P D vwCl [(m0, .inr (8, [.ref mH, .int 0, .long 0, .int 0, .long 0, .int 0, .int 0, .int 0, .int 0, .int 0, .int 0, .long 0, .int 0, .int 0, .ref mI, .ref mJ, .ref mS, .ref mD, .int 0, .int 0, .int 0, .long 0, .ref mX, .int 0, .int 0, .int 0, .ref mA, .ref mB, .ref mW, .ref mL, .int 0])), (mH, .inl (cI, 512, .inl (fun _ => 0))), (mL, .inl (cB, 16, .inl (fun _ => 0)))] H := hP
  have hD : va_D A [(m0, .inr (8, [.ref mH, .int 0, .long 0, .int 0, .long 0, .int 0, .int 0, .int 0, .int 0, .int 0, .int 0, .long 0, .int 0, .int 0, .ref mI, .ref mJ, .ref mS, .ref mD, .int 0, .int 0, .int 0, .long 0, .ref mX, .int 0, .int 0, .int 0, .ref mA, .ref mB, .ref mW, .ref mL, .int 0])), (mH, .inl (cI, 512, .inl (fun _ => 0))), (mL, .inl (cB, 16, .inl (fun _ => 0)))] := hD
  try dsimp only at wr_1
  subst wr_1
  refine lv_if_eq (tgt := 16) hx hb dX8_written_9 (by decide) (fun c_9_1 => ?_) (fun c_9_1 => ?_)
  · have t_9_1 := c_9_1
    try simp only [kb_eq0, kb_ne0, lg_cmp_lt, lg_cmp_le, lg_cmp_gt, lg_cmp_ge, lg_cmp_eq] at t_9_1
    try simp only [Int32.lt_iff_toInt_lt, Int32.le_iff_toInt_le, ← Int32.toInt_inj, Int64.lt_iff_toInt_lt, Int64.le_iff_toInt_le, ← Int64.toInt_inj, Int32.toInt_toInt64, Int32.reduceToInt, Int64.reduceToInt] at t_9_1
    refine lv_iconst (v := (-1)) hx hb dX8_written_16 (by decide) ?_
    refine kIret (u := (0, (fun _ => 0))) hx hb hr rfl hlocks hS dX8_written_17 ?_ (hP.sub [0, 1, 2] rfl) (hD.sub [0, 1, 2] (by decide) rfl)
    first
      | exact (kif_f (by omega)).symm
      | exact ((kif_t (by omega)).trans (kif_f (by omega))).symm
      | exact ((kif_t (by omega)).trans ((kif_t (by omega)).trans (congrFun hE2 _))).symm
  · have t_9_1 := c_9_1
    try simp only [kb_eq0, kb_ne0, lg_cmp_lt, lg_cmp_le, lg_cmp_gt, lg_cmp_ge, lg_cmp_eq] at t_9_1
    try simp only [Int32.lt_iff_toInt_lt, Int32.le_iff_toInt_le, ← Int32.toInt_inj, Int64.lt_iff_toInt_lt, Int64.le_iff_toInt_le, ← Int64.toInt_inj, Int32.toInt_toInt64, Int32.reduceToInt, Int64.reduceToInt] at t_9_1
    refine lv_iload_n hx hb dX8_written_12 rfl (lv_at hl 2 rfl) ?_
    refine lv_if_ge (tgt := 18) hx hb dX8_written_13 (by decide) (fun c_13_2 => ?_) (fun c_13_2 => ?_)
    · have t_13_2 := c_13_2
      try simp only [kb_eq0, kb_ne0, lg_cmp_lt, lg_cmp_le, lg_cmp_gt, lg_cmp_ge, lg_cmp_eq] at t_13_2
      try simp only [Int32.lt_iff_toInt_lt, Int32.le_iff_toInt_le, ← Int32.toInt_inj, Int64.lt_iff_toInt_lt, Int64.le_iff_toInt_le, ← Int64.toInt_inj, Int32.toInt_toInt64, Int32.reduceToInt, Int64.reduceToInt] at t_13_2
      by_cases hdA : n.toInt < 10
      · have hE1 := congrArg Int32.toInt (kLn_1 (n := n) hdA)
        simp only [Int32.reduceToInt] at hE1
        have hE2 := kRv_1 (n := n) hdA
        refine lv_aload_n hx hb dX8_written_18 rfl (lv_at hl 0 rfl) ?_
        refine lv_iconst (v := 0) hx hb dX8_written_19 (by decide) ?_
        refine va_put (D := D) (ci := 8) (v := .int 0) (ty := .int) (C := RX8) (T := TX8) (N := 31) hx hb hts iX8_written_X8 tyX8 tyX8_ok nmX8 hown hK hP hD hS 0 rfl rfl 30 (by decide) (hts (.fieldLink RX8 285 "TapeCalculatorModel" "lineSize" "I") (List.mem_of_getElem? (i := 2) rfl)) (fun _ h9 => h9) rfl (by decide +kernel) rfl rfl (Nat.le_of_ble_eq_true rfl) dX8_written_20 (fun H locs hP hD hS => ?_)
        have hP : va_P D vwCl [(m0, .inr (8, [.ref mH, .int 0, .long 0, .int 0, .long 0, .int 0, .int 0, .int 0, .int 0, .int 0, .int 0, .long 0, .int 0, .int 0, .ref mI, .ref mJ, .ref mS, .ref mD, .int 0, .int 0, .int 0, .long 0, .ref mX, .int 0, .int 0, .int 0, .ref mA, .ref mB, .ref mW, .ref mL, .int 0])), (mH, .inl (cI, 512, .inl (fun _ => 0))), (mL, .inl (cB, 16, .inl (fun _ => 0)))] H := hP
        have hD : va_D A [(m0, .inr (8, [.ref mH, .int 0, .long 0, .int 0, .long 0, .int 0, .int 0, .int 0, .int 0, .int 0, .int 0, .long 0, .int 0, .int 0, .ref mI, .ref mJ, .ref mS, .ref mD, .int 0, .int 0, .int 0, .long 0, .ref mX, .int 0, .int 0, .int 0, .ref mA, .ref mB, .ref mW, .ref mL, .int 0])), (mH, .inl (cI, 512, .inl (fun _ => 0))), (mL, .inl (cB, 16, .inl (fun _ => 0)))] := hD
        refine lv_aload_n hx hb dX8_written_23 rfl (lv_at hl 0 rfl) ?_
        refine lv_iload_n hx hb dX8_written_24 rfl (lv_at hl 1 rfl) ?_
        refine kCallVd (wr := [(mH, .inl (cI, 512, .inl (fun _ => 0)))]) (va_runV (As := [.int n]) (rest := []) ⟨hx, hb, hml, hown, hts⟩ (r_writeN_1 l D cI cL cB cZ cT _ m0 mH mI mJ mS mD mX mA mB mW mL n ⟨by omega, by omega⟩) (cwV 1 hts gX8_written_X8_write rfl rfl rfl (by decide +kernel) ⟨Nat.le_of_ble_eq_true rfl, Nat.le_of_ble_eq_true rfl⟩) (kPreV hG hP hD [0, 2] rfl (by decide) 0 8 rfl rfl rfl) rfl rfl hl.1 rfl (lv_room (Nat.le_of_ble_eq_true rfl)) dX8_written_25 ⟨Nat.le_of_ble_eq_true rfl, Nat.le_of_ble_eq_true rfl⟩) hA hP hD hS [0, 2] [1] rfl rfl (by decide) (by decide) (fun _ u_r_4 H locs wr_4 hP hD hS => ?_)
        have hP : va_P D vwCl [(mH, .inl (cI, 512, .inl (fun _ => 0))), (m0, .inr (8, [.ref mH, .int 0, .long 0, .int 0, .long 0, .int 0, .int 0, .int 0, .int 0, .int 0, .int 0, .long 0, .int 0, .int 0, .ref mI, .ref mJ, .ref mS, .ref mD, .int 0, .int 0, .int 0, .long 0, .ref mX, .int 0, .int 0, .int 0, .ref mA, .ref mB, .ref mW, .ref mL, .int 1])), (mL, .inl (cB, 16, .inl (upd (fun _ => 0) (0 : Int32).toNatClampNeg (vp_nar .byte (48 + ((n / 1) - (n / 1) / 10 * 10)).toInt8.toInt32))))] H := hP
        have hD : va_D A [(mH, .inl (cI, 512, .inl (fun _ => 0))), (m0, .inr (8, [.ref mH, .int 0, .long 0, .int 0, .long 0, .int 0, .int 0, .int 0, .int 0, .int 0, .int 0, .long 0, .int 0, .int 0, .ref mI, .ref mJ, .ref mS, .ref mD, .int 0, .int 0, .int 0, .long 0, .ref mX, .int 0, .int 0, .int 0, .ref mA, .ref mB, .ref mW, .ref mL, .int 1])), (mL, .inl (cB, 16, .inl (upd (fun _ => 0) (0 : Int32).toNatClampNeg (vp_nar .byte (48 + ((n / 1) - (n / 1) / 10 * 10)).toInt8.toInt32))))] := hD
        try dsimp only at wr_4
        refine lv_aload_n hx hb dX8_written_28 rfl (lv_at hl 0 rfl) ?_
        refine va_get (D := D) (ci := 8) (v := .ref mL) (C := RX8) (T := TX8) (N := 31) hx hb hts iX8_written_X8 hown hK hP 1 rfl rfl 29 (by decide) (hts (.fieldLink RX8 40 "TapeCalculatorModel" "line" "[B") (List.mem_of_getElem? (i := 3) rfl)) (fun _ h9 => h9) rfl dX8_written_29 ?_
        refine lv_aload_n hx hb dX8_written_32 rfl (lv_at hl 0 rfl) ?_
        refine va_get (D := D) (ci := 8) (v := .int 1) (C := RX8) (T := TX8) (N := 31) hx hb hts iX8_written_X8 hown hK hP 1 rfl rfl 30 (by decide) (hts (.fieldLink RX8 285 "TapeCalculatorModel" "lineSize" "I") (List.mem_of_getElem? (i := 2) rfl)) (fun _ h9 => h9) rfl dX8_written_33 ?_
        refine lv_bipush (v := 32) hx hb dX8_written_36 (by decide) ?_
        refine va_bast hx hb hK hP hD hS 2 2 rfl rfl (vp_in_iff.mpr (by decide)) dX8_written_38 (fun H locs hP hD hS => ?_)
        have hP : va_P D vwCl [(mH, .inl (cI, 512, .inl (fun _ => 0))), (m0, .inr (8, [.ref mH, .int 0, .long 0, .int 0, .long 0, .int 0, .int 0, .int 0, .int 0, .int 0, .int 0, .long 0, .int 0, .int 0, .ref mI, .ref mJ, .ref mS, .ref mD, .int 0, .int 0, .int 0, .long 0, .ref mX, .int 0, .int 0, .int 0, .ref mA, .ref mB, .ref mW, .ref mL, .int 1])), (mL, .inl (cB, 16, .inl (upd (upd (fun _ => 0) (0 : Int32).toNatClampNeg (vp_nar .byte (48 + ((n / 1) - (n / 1) / 10 * 10)).toInt8.toInt32)) (1 : Int32).toNatClampNeg (vp_nar .byte 32))))] H := hP
        have hD : va_D A [(mH, .inl (cI, 512, .inl (fun _ => 0))), (m0, .inr (8, [.ref mH, .int 0, .long 0, .int 0, .long 0, .int 0, .int 0, .int 0, .int 0, .int 0, .int 0, .long 0, .int 0, .int 0, .ref mI, .ref mJ, .ref mS, .ref mD, .int 0, .int 0, .int 0, .long 0, .ref mX, .int 0, .int 0, .int 0, .ref mA, .ref mB, .ref mW, .ref mL, .int 1])), (mL, .inl (cB, 16, .inl (upd (upd (fun _ => 0) (0 : Int32).toNatClampNeg (vp_nar .byte (48 + ((n / 1) - (n / 1) / 10 * 10)).toInt8.toInt32)) (1 : Int32).toNatClampNeg (vp_nar .byte 32))))] := hD
        refine lv_aload_n hx hb dX8_written_39 rfl (lv_at hl 0 rfl) ?_
        refine lv_dup hx hb dX8_written_40 rfl ?_
        refine va_get (D := D) (ci := 8) (v := .int 1) (C := RX8) (T := TX8) (N := 31) hx hb hts iX8_written_X8 hown hK hP 1 rfl rfl 30 (by decide) (hts (.fieldLink RX8 285 "TapeCalculatorModel" "lineSize" "I") (List.mem_of_getElem? (i := 2) rfl)) (fun _ h9 => h9) rfl dX8_written_41 ?_
        refine lv_iconst (v := 1) hx hb dX8_written_44 (by decide) ?_
        refine lv_iadd hx hb dX8_written_45 ?_
        refine lv_topi (fun x_5 ex_5 => ?_)
        obtain rfl : x_5 = 2 := ex_5.trans (by decide)
        refine va_put (D := D) (ci := 8) (v := .int 2) (ty := .int) (C := RX8) (T := TX8) (N := 31) hx hb hts iX8_written_X8 tyX8 tyX8_ok nmX8 hown hK hP hD hS 1 rfl rfl 30 (by decide) (hts (.fieldLink RX8 285 "TapeCalculatorModel" "lineSize" "I") (List.mem_of_getElem? (i := 2) rfl)) (fun _ h9 => h9) rfl (by decide +kernel) rfl rfl (Nat.le_of_ble_eq_true rfl) dX8_written_46 (fun H locs hP hD hS => ?_)
        have hP : va_P D vwCl [(mH, .inl (cI, 512, .inl (fun _ => 0))), (m0, .inr (8, [.ref mH, .int 0, .long 0, .int 0, .long 0, .int 0, .int 0, .int 0, .int 0, .int 0, .int 0, .long 0, .int 0, .int 0, .ref mI, .ref mJ, .ref mS, .ref mD, .int 0, .int 0, .int 0, .long 0, .ref mX, .int 0, .int 0, .int 0, .ref mA, .ref mB, .ref mW, .ref mL, .int 2])), (mL, .inl (cB, 16, .inl (upd (upd (fun _ => 0) (0 : Int32).toNatClampNeg (vp_nar .byte (48 + ((n / 1) - (n / 1) / 10 * 10)).toInt8.toInt32)) (1 : Int32).toNatClampNeg (vp_nar .byte 32))))] H := hP
        have hD : va_D A [(mH, .inl (cI, 512, .inl (fun _ => 0))), (m0, .inr (8, [.ref mH, .int 0, .long 0, .int 0, .long 0, .int 0, .int 0, .int 0, .int 0, .int 0, .int 0, .long 0, .int 0, .int 0, .ref mI, .ref mJ, .ref mS, .ref mD, .int 0, .int 0, .int 0, .long 0, .ref mX, .int 0, .int 0, .int 0, .ref mA, .ref mB, .ref mW, .ref mL, .int 2])), (mL, .inl (cB, 16, .inl (upd (upd (fun _ => 0) (0 : Int32).toNatClampNeg (vp_nar .byte (48 + ((n / 1) - (n / 1) / 10 * 10)).toInt8.toInt32)) (1 : Int32).toNatClampNeg (vp_nar .byte 32))))] := hD
        refine lv_aload_n hx hb dX8_written_49 rfl (lv_at hl 0 rfl) ?_
        refine lv_aload_n hx hb dX8_written_50 rfl (lv_at hl 0 rfl) ?_
        refine va_get (D := D) (ci := 8) (v := .ref mH) (C := RX8) (T := TX8) (N := 31) hx hb hts iX8_written_X8 hown hK hP 1 rfl rfl 0 (by decide) (hts (.fieldLink RX8 7 "TapeCalculatorModel" "half" "[I") (List.mem_of_getElem? (i := 4) rfl)) (fun _ h9 => h9) rfl dX8_written_51 ?_
        refine lv_iload_n hx hb dX8_written_54 rfl (lv_at hl 1 rfl) ?_
        refine va_iald hx hb hK hP 0 0 rfl rfl (vp_in_iff.mpr (by omega)) dX8_written_55 ?_
        refine lv_bipush (v := 12) hx hb dX8_written_56 (by decide) ?_
        refine lv_ishr hx hb dX8_written_58 ?_
        refine lv_topi (fun x_6 ex_6 => ?_)
        obtain rfl : x_6 = 0 := ex_6.trans (by decide)
        refine lv_bipush (v := 31) hx hb dX8_written_59 (by decide) ?_
        refine lv_iand hx hb dX8_written_61 ?_
        refine lv_topi (fun x_7 ex_7 => ?_)
        obtain rfl : x_7 = 0 := ex_7.trans (by decide)
        refine kCallVd (wr := [(mH, .inl (cI, 512, .inl (fun _ => 0)))]) (va_runV (As := [.int 0]) (rest := []) ⟨hx, hb, hml, hown, hts⟩ (r_writeZ_2 l D cI cL cB cZ cT _ m0 mH mI mJ mS mD mX mA mB mW mL (upd (upd (fun _ => 0) (0 : Int32).toNatClampNeg (vp_nar .byte (48 + ((n / 1) - (n / 1) / 10 * 10)).toInt8.toInt32)) (1 : Int32).toNatClampNeg (vp_nar .byte 32))) (cwV 1 hts gX8_written_X8_write rfl rfl rfl (by decide +kernel) ⟨Nat.le_of_ble_eq_true rfl, Nat.le_of_ble_eq_true rfl⟩) (kPreV hG hP hD [1, 2] rfl (by decide) 0 8 rfl rfl rfl) rfl rfl hl.1 rfl (lv_room (Nat.le_of_ble_eq_true rfl)) dX8_written_62 ⟨Nat.le_of_ble_eq_true rfl, Nat.le_of_ble_eq_true rfl⟩) hA hP hD hS [1, 2] [0] rfl rfl (by decide) (by decide) (fun _ u_r_8 H locs wr_8 hP hD hS => ?_)
        have hP : va_P D vwCl [(mH, .inl (cI, 512, .inl (fun _ => 0))), (m0, .inr (8, [.ref mH, .int 0, .long 0, .int 0, .long 0, .int 0, .int 0, .int 0, .int 0, .int 0, .int 0, .long 0, .int 0, .int 0, .ref mI, .ref mJ, .ref mS, .ref mD, .int 0, .int 0, .int 0, .long 0, .ref mX, .int 0, .int 0, .int 0, .ref mA, .ref mB, .ref mW, .ref mL, .int 3])), (mL, .inl (cB, 16, .inl (upd (upd (upd (fun _ => 0) (0 : Int32).toNatClampNeg (vp_nar .byte (48 + ((n / 1) - (n / 1) / 10 * 10)).toInt8.toInt32)) (1 : Int32).toNatClampNeg (vp_nar .byte 32)) (2 : Int32).toNatClampNeg (vp_nar .byte 48))))] H := hP
        have hD : va_D A [(mH, .inl (cI, 512, .inl (fun _ => 0))), (m0, .inr (8, [.ref mH, .int 0, .long 0, .int 0, .long 0, .int 0, .int 0, .int 0, .int 0, .int 0, .int 0, .long 0, .int 0, .int 0, .ref mI, .ref mJ, .ref mS, .ref mD, .int 0, .int 0, .int 0, .long 0, .ref mX, .int 0, .int 0, .int 0, .ref mA, .ref mB, .ref mW, .ref mL, .int 3])), (mL, .inl (cB, 16, .inl (upd (upd (upd (fun _ => 0) (0 : Int32).toNatClampNeg (vp_nar .byte (48 + ((n / 1) - (n / 1) / 10 * 10)).toInt8.toInt32)) (1 : Int32).toNatClampNeg (vp_nar .byte 32)) (2 : Int32).toNatClampNeg (vp_nar .byte 48))))] := hD
        try dsimp only at wr_8
        refine lv_aload_n hx hb dX8_written_65 rfl (lv_at hl 0 rfl) ?_
        refine va_get (D := D) (ci := 8) (v := .ref mL) (C := RX8) (T := TX8) (N := 31) hx hb hts iX8_written_X8 hown hK hP 1 rfl rfl 29 (by decide) (hts (.fieldLink RX8 40 "TapeCalculatorModel" "line" "[B") (List.mem_of_getElem? (i := 3) rfl)) (fun _ h9 => h9) rfl dX8_written_66 ?_
        refine lv_aload_n hx hb dX8_written_69 rfl (lv_at hl 0 rfl) ?_
        refine va_get (D := D) (ci := 8) (v := .int 3) (C := RX8) (T := TX8) (N := 31) hx hb hts iX8_written_X8 hown hK hP 1 rfl rfl 30 (by decide) (hts (.fieldLink RX8 285 "TapeCalculatorModel" "lineSize" "I") (List.mem_of_getElem? (i := 2) rfl)) (fun _ h9 => h9) rfl dX8_written_70 ?_
        refine lv_aload_n hx hb dX8_written_73 rfl (lv_at hl 0 rfl) ?_
        refine va_get (D := D) (ci := 8) (v := .ref mH) (C := RX8) (T := TX8) (N := 31) hx hb hts iX8_written_X8 hown hK hP 1 rfl rfl 0 (by decide) (hts (.fieldLink RX8 7 "TapeCalculatorModel" "half" "[I") (List.mem_of_getElem? (i := 4) rfl)) (fun _ h9 => h9) rfl dX8_written_74 ?_
        refine lv_iload_n hx hb dX8_written_77 rfl (lv_at hl 1 rfl) ?_
        refine va_iald hx hb hK hP 0 0 rfl rfl (vp_in_iff.mpr (by omega)) dX8_written_78 ?_
        refine lv_bipush (v := 17) hx hb dX8_written_79 (by decide) ?_
        refine lv_ishr hx hb dX8_written_81 ?_
        refine lv_topi (fun x_9 ex_9 => ?_)
        obtain rfl : x_9 = 0 := ex_9.trans (by decide)
        refine lv_iconst (v := 1) hx hb dX8_written_82 (by decide) ?_
        refine lv_iand hx hb dX8_written_83 ?_
        refine lv_topi (fun x_10 ex_10 => ?_)
        obtain rfl : x_10 = 0 := ex_10.trans (by decide)
        refine lv_iconst (v := 1) hx hb dX8_written_84 (by decide) ?_
        refine lv_icmp_ne (tgt := 93) hx hb dX8_written_85 (by decide) (fun c_85_10 => ?_) (fun c_85_10 => ?_)
        · have t_85_10 := c_85_10
          try simp only [kb_eq0, kb_ne0, lg_cmp_lt, lg_cmp_le, lg_cmp_gt, lg_cmp_ge, lg_cmp_eq] at t_85_10
          try simp only [Int32.lt_iff_toInt_lt, Int32.le_iff_toInt_le, ← Int32.toInt_inj, Int64.lt_iff_toInt_lt, Int64.le_iff_toInt_le, ← Int64.toInt_inj, Int32.toInt_toInt64, Int32.reduceToInt, Int64.reduceToInt] at t_85_10
          refine lv_bipush (v := 43) hx hb dX8_written_93 (by decide) ?_
          refine lv_i2b hx hb dX8_written_95 rfl ?_
          refine lv_topi (fun x_12 ex_12 => ?_)
          obtain rfl : x_12 = 43 := ex_12.trans (by decide)
          refine va_bast hx hb hK hP hD hS 2 2 rfl rfl (vp_in_iff.mpr (by decide)) dX8_written_96 (fun H locs hP hD hS => ?_)
          have hP : va_P D vwCl [(mH, .inl (cI, 512, .inl (fun _ => 0))), (m0, .inr (8, [.ref mH, .int 0, .long 0, .int 0, .long 0, .int 0, .int 0, .int 0, .int 0, .int 0, .int 0, .long 0, .int 0, .int 0, .ref mI, .ref mJ, .ref mS, .ref mD, .int 0, .int 0, .int 0, .long 0, .ref mX, .int 0, .int 0, .int 0, .ref mA, .ref mB, .ref mW, .ref mL, .int 3])), (mL, .inl (cB, 16, .inl (upd (upd (upd (upd (fun _ => 0) (0 : Int32).toNatClampNeg (vp_nar .byte (48 + ((n / 1) - (n / 1) / 10 * 10)).toInt8.toInt32)) (1 : Int32).toNatClampNeg (vp_nar .byte 32)) (2 : Int32).toNatClampNeg (vp_nar .byte 48)) (3 : Int32).toNatClampNeg (vp_nar .byte 43))))] H := hP
          have hD : va_D A [(mH, .inl (cI, 512, .inl (fun _ => 0))), (m0, .inr (8, [.ref mH, .int 0, .long 0, .int 0, .long 0, .int 0, .int 0, .int 0, .int 0, .int 0, .int 0, .long 0, .int 0, .int 0, .ref mI, .ref mJ, .ref mS, .ref mD, .int 0, .int 0, .int 0, .long 0, .ref mX, .int 0, .int 0, .int 0, .ref mA, .ref mB, .ref mW, .ref mL, .int 3])), (mL, .inl (cB, 16, .inl (upd (upd (upd (upd (fun _ => 0) (0 : Int32).toNatClampNeg (vp_nar .byte (48 + ((n / 1) - (n / 1) / 10 * 10)).toInt8.toInt32)) (1 : Int32).toNatClampNeg (vp_nar .byte 32)) (2 : Int32).toNatClampNeg (vp_nar .byte 48)) (3 : Int32).toNatClampNeg (vp_nar .byte 43))))] := hD
          refine lv_aload_n hx hb dX8_written_97 rfl (lv_at hl 0 rfl) ?_
          refine lv_dup hx hb dX8_written_98 rfl ?_
          refine va_get (D := D) (ci := 8) (v := .int 3) (C := RX8) (T := TX8) (N := 31) hx hb hts iX8_written_X8 hown hK hP 1 rfl rfl 30 (by decide) (hts (.fieldLink RX8 285 "TapeCalculatorModel" "lineSize" "I") (List.mem_of_getElem? (i := 2) rfl)) (fun _ h9 => h9) rfl dX8_written_99 ?_
          refine lv_iconst (v := 1) hx hb dX8_written_102 (by decide) ?_
          refine lv_iadd hx hb dX8_written_103 ?_
          refine lv_topi (fun x_13 ex_13 => ?_)
          obtain rfl : x_13 = 4 := ex_13.trans (by decide)
          refine va_put (D := D) (ci := 8) (v := .int 4) (ty := .int) (C := RX8) (T := TX8) (N := 31) hx hb hts iX8_written_X8 tyX8 tyX8_ok nmX8 hown hK hP hD hS 1 rfl rfl 30 (by decide) (hts (.fieldLink RX8 285 "TapeCalculatorModel" "lineSize" "I") (List.mem_of_getElem? (i := 2) rfl)) (fun _ h9 => h9) rfl (by decide +kernel) rfl rfl (Nat.le_of_ble_eq_true rfl) dX8_written_104 (fun H locs hP hD hS => ?_)
          have hP : va_P D vwCl [(mH, .inl (cI, 512, .inl (fun _ => 0))), (m0, .inr (8, [.ref mH, .int 0, .long 0, .int 0, .long 0, .int 0, .int 0, .int 0, .int 0, .int 0, .int 0, .long 0, .int 0, .int 0, .ref mI, .ref mJ, .ref mS, .ref mD, .int 0, .int 0, .int 0, .long 0, .ref mX, .int 0, .int 0, .int 0, .ref mA, .ref mB, .ref mW, .ref mL, .int 4])), (mL, .inl (cB, 16, .inl (upd (upd (upd (upd (fun _ => 0) (0 : Int32).toNatClampNeg (vp_nar .byte (48 + ((n / 1) - (n / 1) / 10 * 10)).toInt8.toInt32)) (1 : Int32).toNatClampNeg (vp_nar .byte 32)) (2 : Int32).toNatClampNeg (vp_nar .byte 48)) (3 : Int32).toNatClampNeg (vp_nar .byte 43))))] H := hP
          have hD : va_D A [(mH, .inl (cI, 512, .inl (fun _ => 0))), (m0, .inr (8, [.ref mH, .int 0, .long 0, .int 0, .long 0, .int 0, .int 0, .int 0, .int 0, .int 0, .int 0, .long 0, .int 0, .int 0, .ref mI, .ref mJ, .ref mS, .ref mD, .int 0, .int 0, .int 0, .long 0, .ref mX, .int 0, .int 0, .int 0, .ref mA, .ref mB, .ref mW, .ref mL, .int 4])), (mL, .inl (cB, 16, .inl (upd (upd (upd (upd (fun _ => 0) (0 : Int32).toNatClampNeg (vp_nar .byte (48 + ((n / 1) - (n / 1) / 10 * 10)).toInt8.toInt32)) (1 : Int32).toNatClampNeg (vp_nar .byte 32)) (2 : Int32).toNatClampNeg (vp_nar .byte 48)) (3 : Int32).toNatClampNeg (vp_nar .byte 43))))] := hD
          refine lv_aload_n hx hb dX8_written_107 rfl (lv_at hl 0 rfl) ?_
          refine lv_aload_n hx hb dX8_written_108 rfl (lv_at hl 0 rfl) ?_
          refine va_get (D := D) (ci := 8) (v := .ref mH) (C := RX8) (T := TX8) (N := 31) hx hb hts iX8_written_X8 hown hK hP 1 rfl rfl 0 (by decide) (hts (.fieldLink RX8 7 "TapeCalculatorModel" "half" "[I") (List.mem_of_getElem? (i := 4) rfl)) (fun _ h9 => h9) rfl dX8_written_109 ?_
          refine lv_iload_n hx hb dX8_written_112 rfl (lv_at hl 1 rfl) ?_
          refine va_iald hx hb hK hP 0 0 rfl rfl (vp_in_iff.mpr (by omega)) dX8_written_113 ?_
          refine lv_sipush (v := 4095) hx hb dX8_written_114 (by decide) ?_
          refine lv_iand hx hb dX8_written_117 ?_
          refine lv_topi (fun x_14 ex_14 => ?_)
          obtain rfl : x_14 = 0 := ex_14.trans (by decide)
          refine kCallVd (wr := [(mH, .inl (cI, 512, .inl (fun _ => 0)))]) (va_runV (As := [.int 0]) (rest := []) ⟨hx, hb, hml, hown, hts⟩ (r_writeZ_4 l D cI cL cB cZ cT _ m0 mH mI mJ mS mD mX mA mB mW mL (upd (upd (upd (upd (fun _ => 0) (0 : Int32).toNatClampNeg (vp_nar .byte (48 + ((n / 1) - (n / 1) / 10 * 10)).toInt8.toInt32)) (1 : Int32).toNatClampNeg (vp_nar .byte 32)) (2 : Int32).toNatClampNeg (vp_nar .byte 48)) (3 : Int32).toNatClampNeg (vp_nar .byte 43))) (cwV 1 hts gX8_written_X8_write rfl rfl rfl (by decide +kernel) ⟨Nat.le_of_ble_eq_true rfl, Nat.le_of_ble_eq_true rfl⟩) (kPreV hG hP hD [1, 2] rfl (by decide) 0 8 rfl rfl rfl) rfl rfl hl.1 rfl (lv_room (Nat.le_of_ble_eq_true rfl)) dX8_written_118 ⟨Nat.le_of_ble_eq_true rfl, Nat.le_of_ble_eq_true rfl⟩) hA hP hD hS [1, 2] [0] rfl rfl (by decide) (by decide) (fun _ u_r_15 H locs wr_15 hP hD hS => ?_)
          have hP : va_P D vwCl [(mH, .inl (cI, 512, .inl (fun _ => 0))), (m0, .inr (8, [.ref mH, .int 0, .long 0, .int 0, .long 0, .int 0, .int 0, .int 0, .int 0, .int 0, .int 0, .long 0, .int 0, .int 0, .ref mI, .ref mJ, .ref mS, .ref mD, .int 0, .int 0, .int 0, .long 0, .ref mX, .int 0, .int 0, .int 0, .ref mA, .ref mB, .ref mW, .ref mL, .int 5])), (mL, .inl (cB, 16, .inl (upd (upd (upd (upd (upd (fun _ => 0) (0 : Int32).toNatClampNeg (vp_nar .byte (48 + ((n / 1) - (n / 1) / 10 * 10)).toInt8.toInt32)) (1 : Int32).toNatClampNeg (vp_nar .byte 32)) (2 : Int32).toNatClampNeg (vp_nar .byte 48)) (3 : Int32).toNatClampNeg (vp_nar .byte 43)) (4 : Int32).toNatClampNeg (vp_nar .byte 48))))] H := hP
          have hD : va_D A [(mH, .inl (cI, 512, .inl (fun _ => 0))), (m0, .inr (8, [.ref mH, .int 0, .long 0, .int 0, .long 0, .int 0, .int 0, .int 0, .int 0, .int 0, .int 0, .long 0, .int 0, .int 0, .ref mI, .ref mJ, .ref mS, .ref mD, .int 0, .int 0, .int 0, .long 0, .ref mX, .int 0, .int 0, .int 0, .ref mA, .ref mB, .ref mW, .ref mL, .int 5])), (mL, .inl (cB, 16, .inl (upd (upd (upd (upd (upd (fun _ => 0) (0 : Int32).toNatClampNeg (vp_nar .byte (48 + ((n / 1) - (n / 1) / 10 * 10)).toInt8.toInt32)) (1 : Int32).toNatClampNeg (vp_nar .byte 32)) (2 : Int32).toNatClampNeg (vp_nar .byte 48)) (3 : Int32).toNatClampNeg (vp_nar .byte 43)) (4 : Int32).toNatClampNeg (vp_nar .byte 48))))] := hD
          try dsimp only at wr_15
          refine lv_iload_n hx hb dX8_written_121 rfl (lv_at hl 2 rfl) ?_
          refine lv_aload_n hx hb dX8_written_122 rfl (lv_at hl 0 rfl) ?_
          refine va_get (D := D) (ci := 8) (v := .int 5) (C := RX8) (T := TX8) (N := 31) hx hb hts iX8_written_X8 hown hK hP 1 rfl rfl 30 (by decide) (hts (.fieldLink RX8 285 "TapeCalculatorModel" "lineSize" "I") (List.mem_of_getElem? (i := 2) rfl)) (fun _ h9 => h9) rfl dX8_written_123 ?_
          refine lv_icmp_ge (tgt := 138) hx hb dX8_written_126 (by decide) (fun c_126_15 => ?_) (fun c_126_15 => ?_)
          · have t_126_15 := c_126_15
            try simp only [kb_eq0, kb_ne0, lg_cmp_lt, lg_cmp_le, lg_cmp_gt, lg_cmp_ge, lg_cmp_eq] at t_126_15
            try simp only [Int32.lt_iff_toInt_lt, Int32.le_iff_toInt_le, ← Int32.toInt_inj, Int64.lt_iff_toInt_lt, Int64.le_iff_toInt_le, ← Int64.toInt_inj, Int32.toInt_toInt64, Int32.reduceToInt, Int64.reduceToInt] at t_126_15
            refine lv_bipush (v := (-9)) hx hb dX8_written_138 (by decide) ?_
            refine kIret (u := (5, (upd (upd (upd (upd (upd (fun _ => 0) (0 : Int32).toNatClampNeg (vp_nar .byte (48 + ((n / 1) - (n / 1) / 10 * 10)).toInt8.toInt32)) (1 : Int32).toNatClampNeg (vp_nar .byte 32)) (2 : Int32).toNatClampNeg (vp_nar .byte 48)) (3 : Int32).toNatClampNeg (vp_nar .byte 43)) (4 : Int32).toNatClampNeg (vp_nar .byte 48)))) hx hb hr rfl hlocks hS dX8_written_140 ?_ (hP.sub [1, 0, 2] rfl) (hD.sub [1, 0, 2] (by decide) rfl)
            first
              | exact (kif_f (by omega)).symm
              | exact ((kif_t (by omega)).trans (kif_f (by omega))).symm
              | exact ((kif_t (by omega)).trans ((kif_t (by omega)).trans (congrFun hE2 _))).symm
          · have t_126_15 := c_126_15
            try simp only [kb_eq0, kb_ne0, lg_cmp_lt, lg_cmp_le, lg_cmp_gt, lg_cmp_ge, lg_cmp_eq] at t_126_15
            try simp only [Int32.lt_iff_toInt_lt, Int32.le_iff_toInt_le, ← Int32.toInt_inj, Int64.lt_iff_toInt_lt, Int64.le_iff_toInt_le, ← Int64.toInt_inj, Int32.toInt_toInt64, Int32.reduceToInt, Int64.reduceToInt] at t_126_15
            refine lv_aload_n hx hb dX8_written_129 rfl (lv_at hl 0 rfl) ?_
            refine va_get (D := D) (ci := 8) (v := .ref mL) (C := RX8) (T := TX8) (N := 31) hx hb hts iX8_written_X8 hown hK hP 1 rfl rfl 29 (by decide) (hts (.fieldLink RX8 40 "TapeCalculatorModel" "line" "[B") (List.mem_of_getElem? (i := 3) rfl)) (fun _ h9 => h9) rfl dX8_written_130 ?_
            refine lv_iload_n hx hb dX8_written_133 rfl (lv_at hl 2 rfl) ?_
            refine va_bald hx hb hK hP 2 2 rfl rfl (vp_in_iff.mpr (by omega)) dX8_written_134 ?_
            refine lv_goto (tgt := 140) hx hb dX8_written_135 (by decide) ?_
            refine kIret (u := (5, (upd (upd (upd (upd (upd (fun _ => 0) (0 : Int32).toNatClampNeg (vp_nar .byte (48 + ((n / 1) - (n / 1) / 10 * 10)).toInt8.toInt32)) (1 : Int32).toNatClampNeg (vp_nar .byte 32)) (2 : Int32).toNatClampNeg (vp_nar .byte 48)) (3 : Int32).toNatClampNeg (vp_nar .byte 43)) (4 : Int32).toNatClampNeg (vp_nar .byte 48)))) hx hb hr rfl hlocks hS dX8_written_140 ?_ (hP.sub [1, 0, 2] rfl) (hD.sub [1, 0, 2] (by decide) rfl)
            first
              | exact (kif_f (by omega)).symm
              | exact ((kif_t (by omega)).trans (kif_f (by omega))).symm
              | exact ((kif_t (by omega)).trans ((kif_t (by omega)).trans (congrFun hE2 _))).symm
        · exact absurd c_85_10 (by decide)
      · by_cases hdB : n.toInt < 100
        · have hE1 := congrArg Int32.toInt (kLn_2 (n := n) hdA hdB)
          simp only [Int32.reduceToInt] at hE1
          have hE2 := kRv_2 (n := n) hdA hdB
          refine lv_aload_n hx hb dX8_written_18 rfl (lv_at hl 0 rfl) ?_
          refine lv_iconst (v := 0) hx hb dX8_written_19 (by decide) ?_
          refine va_put (D := D) (ci := 8) (v := .int 0) (ty := .int) (C := RX8) (T := TX8) (N := 31) hx hb hts iX8_written_X8 tyX8 tyX8_ok nmX8 hown hK hP hD hS 0 rfl rfl 30 (by decide) (hts (.fieldLink RX8 285 "TapeCalculatorModel" "lineSize" "I") (List.mem_of_getElem? (i := 2) rfl)) (fun _ h9 => h9) rfl (by decide +kernel) rfl rfl (Nat.le_of_ble_eq_true rfl) dX8_written_20 (fun H locs hP hD hS => ?_)
          have hP : va_P D vwCl [(m0, .inr (8, [.ref mH, .int 0, .long 0, .int 0, .long 0, .int 0, .int 0, .int 0, .int 0, .int 0, .int 0, .long 0, .int 0, .int 0, .ref mI, .ref mJ, .ref mS, .ref mD, .int 0, .int 0, .int 0, .long 0, .ref mX, .int 0, .int 0, .int 0, .ref mA, .ref mB, .ref mW, .ref mL, .int 0])), (mH, .inl (cI, 512, .inl (fun _ => 0))), (mL, .inl (cB, 16, .inl (fun _ => 0)))] H := hP
          have hD : va_D A [(m0, .inr (8, [.ref mH, .int 0, .long 0, .int 0, .long 0, .int 0, .int 0, .int 0, .int 0, .int 0, .int 0, .long 0, .int 0, .int 0, .ref mI, .ref mJ, .ref mS, .ref mD, .int 0, .int 0, .int 0, .long 0, .ref mX, .int 0, .int 0, .int 0, .ref mA, .ref mB, .ref mW, .ref mL, .int 0])), (mH, .inl (cI, 512, .inl (fun _ => 0))), (mL, .inl (cB, 16, .inl (fun _ => 0)))] := hD
          refine lv_aload_n hx hb dX8_written_23 rfl (lv_at hl 0 rfl) ?_
          refine lv_iload_n hx hb dX8_written_24 rfl (lv_at hl 1 rfl) ?_
          refine kCallVd (wr := [(mH, .inl (cI, 512, .inl (fun _ => 0)))]) (va_runV (As := [.int n]) (rest := []) ⟨hx, hb, hml, hown, hts⟩ (r_writeN_2 l D cI cL cB cZ cT _ m0 mH mI mJ mS mD mX mA mB mW mL n ⟨by omega, by omega⟩) (cwV 1 hts gX8_written_X8_write rfl rfl rfl (by decide +kernel) ⟨Nat.le_of_ble_eq_true rfl, Nat.le_of_ble_eq_true rfl⟩) (kPreV hG hP hD [0, 2] rfl (by decide) 0 8 rfl rfl rfl) rfl rfl hl.1 rfl (lv_room (Nat.le_of_ble_eq_true rfl)) dX8_written_25 ⟨Nat.le_of_ble_eq_true rfl, Nat.le_of_ble_eq_true rfl⟩) hA hP hD hS [0, 2] [1] rfl rfl (by decide) (by decide) (fun _ u_r_17 H locs wr_17 hP hD hS => ?_)
          have hP : va_P D vwCl [(mH, .inl (cI, 512, .inl (fun _ => 0))), (m0, .inr (8, [.ref mH, .int 0, .long 0, .int 0, .long 0, .int 0, .int 0, .int 0, .int 0, .int 0, .int 0, .long 0, .int 0, .int 0, .ref mI, .ref mJ, .ref mS, .ref mD, .int 0, .int 0, .int 0, .long 0, .ref mX, .int 0, .int 0, .int 0, .ref mA, .ref mB, .ref mW, .ref mL, .int 2])), (mL, .inl (cB, 16, .inl (upd (upd (fun _ => 0) (0 : Int32).toNatClampNeg (vp_nar .byte (48 + ((n / 10) - (n / 10) / 10 * 10)).toInt8.toInt32)) (1 : Int32).toNatClampNeg (vp_nar .byte (48 + ((n / 1) - (n / 1) / 10 * 10)).toInt8.toInt32))))] H := hP
          have hD : va_D A [(mH, .inl (cI, 512, .inl (fun _ => 0))), (m0, .inr (8, [.ref mH, .int 0, .long 0, .int 0, .long 0, .int 0, .int 0, .int 0, .int 0, .int 0, .int 0, .long 0, .int 0, .int 0, .ref mI, .ref mJ, .ref mS, .ref mD, .int 0, .int 0, .int 0, .long 0, .ref mX, .int 0, .int 0, .int 0, .ref mA, .ref mB, .ref mW, .ref mL, .int 2])), (mL, .inl (cB, 16, .inl (upd (upd (fun _ => 0) (0 : Int32).toNatClampNeg (vp_nar .byte (48 + ((n / 10) - (n / 10) / 10 * 10)).toInt8.toInt32)) (1 : Int32).toNatClampNeg (vp_nar .byte (48 + ((n / 1) - (n / 1) / 10 * 10)).toInt8.toInt32))))] := hD
          try dsimp only at wr_17
          refine lv_aload_n hx hb dX8_written_28 rfl (lv_at hl 0 rfl) ?_
          refine va_get (D := D) (ci := 8) (v := .ref mL) (C := RX8) (T := TX8) (N := 31) hx hb hts iX8_written_X8 hown hK hP 1 rfl rfl 29 (by decide) (hts (.fieldLink RX8 40 "TapeCalculatorModel" "line" "[B") (List.mem_of_getElem? (i := 3) rfl)) (fun _ h9 => h9) rfl dX8_written_29 ?_
          refine lv_aload_n hx hb dX8_written_32 rfl (lv_at hl 0 rfl) ?_
          refine va_get (D := D) (ci := 8) (v := .int 2) (C := RX8) (T := TX8) (N := 31) hx hb hts iX8_written_X8 hown hK hP 1 rfl rfl 30 (by decide) (hts (.fieldLink RX8 285 "TapeCalculatorModel" "lineSize" "I") (List.mem_of_getElem? (i := 2) rfl)) (fun _ h9 => h9) rfl dX8_written_33 ?_
          refine lv_bipush (v := 32) hx hb dX8_written_36 (by decide) ?_
          refine va_bast hx hb hK hP hD hS 2 2 rfl rfl (vp_in_iff.mpr (by decide)) dX8_written_38 (fun H locs hP hD hS => ?_)
          have hP : va_P D vwCl [(mH, .inl (cI, 512, .inl (fun _ => 0))), (m0, .inr (8, [.ref mH, .int 0, .long 0, .int 0, .long 0, .int 0, .int 0, .int 0, .int 0, .int 0, .int 0, .long 0, .int 0, .int 0, .ref mI, .ref mJ, .ref mS, .ref mD, .int 0, .int 0, .int 0, .long 0, .ref mX, .int 0, .int 0, .int 0, .ref mA, .ref mB, .ref mW, .ref mL, .int 2])), (mL, .inl (cB, 16, .inl (upd (upd (upd (fun _ => 0) (0 : Int32).toNatClampNeg (vp_nar .byte (48 + ((n / 10) - (n / 10) / 10 * 10)).toInt8.toInt32)) (1 : Int32).toNatClampNeg (vp_nar .byte (48 + ((n / 1) - (n / 1) / 10 * 10)).toInt8.toInt32)) (2 : Int32).toNatClampNeg (vp_nar .byte 32))))] H := hP
          have hD : va_D A [(mH, .inl (cI, 512, .inl (fun _ => 0))), (m0, .inr (8, [.ref mH, .int 0, .long 0, .int 0, .long 0, .int 0, .int 0, .int 0, .int 0, .int 0, .int 0, .long 0, .int 0, .int 0, .ref mI, .ref mJ, .ref mS, .ref mD, .int 0, .int 0, .int 0, .long 0, .ref mX, .int 0, .int 0, .int 0, .ref mA, .ref mB, .ref mW, .ref mL, .int 2])), (mL, .inl (cB, 16, .inl (upd (upd (upd (fun _ => 0) (0 : Int32).toNatClampNeg (vp_nar .byte (48 + ((n / 10) - (n / 10) / 10 * 10)).toInt8.toInt32)) (1 : Int32).toNatClampNeg (vp_nar .byte (48 + ((n / 1) - (n / 1) / 10 * 10)).toInt8.toInt32)) (2 : Int32).toNatClampNeg (vp_nar .byte 32))))] := hD
          refine lv_aload_n hx hb dX8_written_39 rfl (lv_at hl 0 rfl) ?_
          refine lv_dup hx hb dX8_written_40 rfl ?_
          refine va_get (D := D) (ci := 8) (v := .int 2) (C := RX8) (T := TX8) (N := 31) hx hb hts iX8_written_X8 hown hK hP 1 rfl rfl 30 (by decide) (hts (.fieldLink RX8 285 "TapeCalculatorModel" "lineSize" "I") (List.mem_of_getElem? (i := 2) rfl)) (fun _ h9 => h9) rfl dX8_written_41 ?_
          refine lv_iconst (v := 1) hx hb dX8_written_44 (by decide) ?_
          refine lv_iadd hx hb dX8_written_45 ?_
          refine lv_topi (fun x_18 ex_18 => ?_)
          obtain rfl : x_18 = 3 := ex_18.trans (by decide)
          refine va_put (D := D) (ci := 8) (v := .int 3) (ty := .int) (C := RX8) (T := TX8) (N := 31) hx hb hts iX8_written_X8 tyX8 tyX8_ok nmX8 hown hK hP hD hS 1 rfl rfl 30 (by decide) (hts (.fieldLink RX8 285 "TapeCalculatorModel" "lineSize" "I") (List.mem_of_getElem? (i := 2) rfl)) (fun _ h9 => h9) rfl (by decide +kernel) rfl rfl (Nat.le_of_ble_eq_true rfl) dX8_written_46 (fun H locs hP hD hS => ?_)
          have hP : va_P D vwCl [(mH, .inl (cI, 512, .inl (fun _ => 0))), (m0, .inr (8, [.ref mH, .int 0, .long 0, .int 0, .long 0, .int 0, .int 0, .int 0, .int 0, .int 0, .int 0, .long 0, .int 0, .int 0, .ref mI, .ref mJ, .ref mS, .ref mD, .int 0, .int 0, .int 0, .long 0, .ref mX, .int 0, .int 0, .int 0, .ref mA, .ref mB, .ref mW, .ref mL, .int 3])), (mL, .inl (cB, 16, .inl (upd (upd (upd (fun _ => 0) (0 : Int32).toNatClampNeg (vp_nar .byte (48 + ((n / 10) - (n / 10) / 10 * 10)).toInt8.toInt32)) (1 : Int32).toNatClampNeg (vp_nar .byte (48 + ((n / 1) - (n / 1) / 10 * 10)).toInt8.toInt32)) (2 : Int32).toNatClampNeg (vp_nar .byte 32))))] H := hP
          have hD : va_D A [(mH, .inl (cI, 512, .inl (fun _ => 0))), (m0, .inr (8, [.ref mH, .int 0, .long 0, .int 0, .long 0, .int 0, .int 0, .int 0, .int 0, .int 0, .int 0, .long 0, .int 0, .int 0, .ref mI, .ref mJ, .ref mS, .ref mD, .int 0, .int 0, .int 0, .long 0, .ref mX, .int 0, .int 0, .int 0, .ref mA, .ref mB, .ref mW, .ref mL, .int 3])), (mL, .inl (cB, 16, .inl (upd (upd (upd (fun _ => 0) (0 : Int32).toNatClampNeg (vp_nar .byte (48 + ((n / 10) - (n / 10) / 10 * 10)).toInt8.toInt32)) (1 : Int32).toNatClampNeg (vp_nar .byte (48 + ((n / 1) - (n / 1) / 10 * 10)).toInt8.toInt32)) (2 : Int32).toNatClampNeg (vp_nar .byte 32))))] := hD
          refine lv_aload_n hx hb dX8_written_49 rfl (lv_at hl 0 rfl) ?_
          refine lv_aload_n hx hb dX8_written_50 rfl (lv_at hl 0 rfl) ?_
          refine va_get (D := D) (ci := 8) (v := .ref mH) (C := RX8) (T := TX8) (N := 31) hx hb hts iX8_written_X8 hown hK hP 1 rfl rfl 0 (by decide) (hts (.fieldLink RX8 7 "TapeCalculatorModel" "half" "[I") (List.mem_of_getElem? (i := 4) rfl)) (fun _ h9 => h9) rfl dX8_written_51 ?_
          refine lv_iload_n hx hb dX8_written_54 rfl (lv_at hl 1 rfl) ?_
          refine va_iald hx hb hK hP 0 0 rfl rfl (vp_in_iff.mpr (by omega)) dX8_written_55 ?_
          refine lv_bipush (v := 12) hx hb dX8_written_56 (by decide) ?_
          refine lv_ishr hx hb dX8_written_58 ?_
          refine lv_topi (fun x_19 ex_19 => ?_)
          obtain rfl : x_19 = 0 := ex_19.trans (by decide)
          refine lv_bipush (v := 31) hx hb dX8_written_59 (by decide) ?_
          refine lv_iand hx hb dX8_written_61 ?_
          refine lv_topi (fun x_20 ex_20 => ?_)
          obtain rfl : x_20 = 0 := ex_20.trans (by decide)
          refine kCallVd (wr := [(mH, .inl (cI, 512, .inl (fun _ => 0)))]) (va_runV (As := [.int 0]) (rest := []) ⟨hx, hb, hml, hown, hts⟩ (r_writeZ_3 l D cI cL cB cZ cT _ m0 mH mI mJ mS mD mX mA mB mW mL (upd (upd (upd (fun _ => 0) (0 : Int32).toNatClampNeg (vp_nar .byte (48 + ((n / 10) - (n / 10) / 10 * 10)).toInt8.toInt32)) (1 : Int32).toNatClampNeg (vp_nar .byte (48 + ((n / 1) - (n / 1) / 10 * 10)).toInt8.toInt32)) (2 : Int32).toNatClampNeg (vp_nar .byte 32))) (cwV 1 hts gX8_written_X8_write rfl rfl rfl (by decide +kernel) ⟨Nat.le_of_ble_eq_true rfl, Nat.le_of_ble_eq_true rfl⟩) (kPreV hG hP hD [1, 2] rfl (by decide) 0 8 rfl rfl rfl) rfl rfl hl.1 rfl (lv_room (Nat.le_of_ble_eq_true rfl)) dX8_written_62 ⟨Nat.le_of_ble_eq_true rfl, Nat.le_of_ble_eq_true rfl⟩) hA hP hD hS [1, 2] [0] rfl rfl (by decide) (by decide) (fun _ u_r_21 H locs wr_21 hP hD hS => ?_)
          have hP : va_P D vwCl [(mH, .inl (cI, 512, .inl (fun _ => 0))), (m0, .inr (8, [.ref mH, .int 0, .long 0, .int 0, .long 0, .int 0, .int 0, .int 0, .int 0, .int 0, .int 0, .long 0, .int 0, .int 0, .ref mI, .ref mJ, .ref mS, .ref mD, .int 0, .int 0, .int 0, .long 0, .ref mX, .int 0, .int 0, .int 0, .ref mA, .ref mB, .ref mW, .ref mL, .int 4])), (mL, .inl (cB, 16, .inl (upd (upd (upd (upd (fun _ => 0) (0 : Int32).toNatClampNeg (vp_nar .byte (48 + ((n / 10) - (n / 10) / 10 * 10)).toInt8.toInt32)) (1 : Int32).toNatClampNeg (vp_nar .byte (48 + ((n / 1) - (n / 1) / 10 * 10)).toInt8.toInt32)) (2 : Int32).toNatClampNeg (vp_nar .byte 32)) (3 : Int32).toNatClampNeg (vp_nar .byte 48))))] H := hP
          have hD : va_D A [(mH, .inl (cI, 512, .inl (fun _ => 0))), (m0, .inr (8, [.ref mH, .int 0, .long 0, .int 0, .long 0, .int 0, .int 0, .int 0, .int 0, .int 0, .int 0, .long 0, .int 0, .int 0, .ref mI, .ref mJ, .ref mS, .ref mD, .int 0, .int 0, .int 0, .long 0, .ref mX, .int 0, .int 0, .int 0, .ref mA, .ref mB, .ref mW, .ref mL, .int 4])), (mL, .inl (cB, 16, .inl (upd (upd (upd (upd (fun _ => 0) (0 : Int32).toNatClampNeg (vp_nar .byte (48 + ((n / 10) - (n / 10) / 10 * 10)).toInt8.toInt32)) (1 : Int32).toNatClampNeg (vp_nar .byte (48 + ((n / 1) - (n / 1) / 10 * 10)).toInt8.toInt32)) (2 : Int32).toNatClampNeg (vp_nar .byte 32)) (3 : Int32).toNatClampNeg (vp_nar .byte 48))))] := hD
          try dsimp only at wr_21
          refine lv_aload_n hx hb dX8_written_65 rfl (lv_at hl 0 rfl) ?_
          refine va_get (D := D) (ci := 8) (v := .ref mL) (C := RX8) (T := TX8) (N := 31) hx hb hts iX8_written_X8 hown hK hP 1 rfl rfl 29 (by decide) (hts (.fieldLink RX8 40 "TapeCalculatorModel" "line" "[B") (List.mem_of_getElem? (i := 3) rfl)) (fun _ h9 => h9) rfl dX8_written_66 ?_
          refine lv_aload_n hx hb dX8_written_69 rfl (lv_at hl 0 rfl) ?_
          refine va_get (D := D) (ci := 8) (v := .int 4) (C := RX8) (T := TX8) (N := 31) hx hb hts iX8_written_X8 hown hK hP 1 rfl rfl 30 (by decide) (hts (.fieldLink RX8 285 "TapeCalculatorModel" "lineSize" "I") (List.mem_of_getElem? (i := 2) rfl)) (fun _ h9 => h9) rfl dX8_written_70 ?_
          refine lv_aload_n hx hb dX8_written_73 rfl (lv_at hl 0 rfl) ?_
          refine va_get (D := D) (ci := 8) (v := .ref mH) (C := RX8) (T := TX8) (N := 31) hx hb hts iX8_written_X8 hown hK hP 1 rfl rfl 0 (by decide) (hts (.fieldLink RX8 7 "TapeCalculatorModel" "half" "[I") (List.mem_of_getElem? (i := 4) rfl)) (fun _ h9 => h9) rfl dX8_written_74 ?_
          refine lv_iload_n hx hb dX8_written_77 rfl (lv_at hl 1 rfl) ?_
          refine va_iald hx hb hK hP 0 0 rfl rfl (vp_in_iff.mpr (by omega)) dX8_written_78 ?_
          refine lv_bipush (v := 17) hx hb dX8_written_79 (by decide) ?_
          refine lv_ishr hx hb dX8_written_81 ?_
          refine lv_topi (fun x_22 ex_22 => ?_)
          obtain rfl : x_22 = 0 := ex_22.trans (by decide)
          refine lv_iconst (v := 1) hx hb dX8_written_82 (by decide) ?_
          refine lv_iand hx hb dX8_written_83 ?_
          refine lv_topi (fun x_23 ex_23 => ?_)
          obtain rfl : x_23 = 0 := ex_23.trans (by decide)
          refine lv_iconst (v := 1) hx hb dX8_written_84 (by decide) ?_
          refine lv_icmp_ne (tgt := 93) hx hb dX8_written_85 (by decide) (fun c_85_23 => ?_) (fun c_85_23 => ?_)
          · have t_85_23 := c_85_23
            try simp only [kb_eq0, kb_ne0, lg_cmp_lt, lg_cmp_le, lg_cmp_gt, lg_cmp_ge, lg_cmp_eq] at t_85_23
            try simp only [Int32.lt_iff_toInt_lt, Int32.le_iff_toInt_le, ← Int32.toInt_inj, Int64.lt_iff_toInt_lt, Int64.le_iff_toInt_le, ← Int64.toInt_inj, Int32.toInt_toInt64, Int32.reduceToInt, Int64.reduceToInt] at t_85_23
            refine lv_bipush (v := 43) hx hb dX8_written_93 (by decide) ?_
            refine lv_i2b hx hb dX8_written_95 rfl ?_
            refine lv_topi (fun x_25 ex_25 => ?_)
            obtain rfl : x_25 = 43 := ex_25.trans (by decide)
            refine va_bast hx hb hK hP hD hS 2 2 rfl rfl (vp_in_iff.mpr (by decide)) dX8_written_96 (fun H locs hP hD hS => ?_)
            have hP : va_P D vwCl [(mH, .inl (cI, 512, .inl (fun _ => 0))), (m0, .inr (8, [.ref mH, .int 0, .long 0, .int 0, .long 0, .int 0, .int 0, .int 0, .int 0, .int 0, .int 0, .long 0, .int 0, .int 0, .ref mI, .ref mJ, .ref mS, .ref mD, .int 0, .int 0, .int 0, .long 0, .ref mX, .int 0, .int 0, .int 0, .ref mA, .ref mB, .ref mW, .ref mL, .int 4])), (mL, .inl (cB, 16, .inl (upd (upd (upd (upd (upd (fun _ => 0) (0 : Int32).toNatClampNeg (vp_nar .byte (48 + ((n / 10) - (n / 10) / 10 * 10)).toInt8.toInt32)) (1 : Int32).toNatClampNeg (vp_nar .byte (48 + ((n / 1) - (n / 1) / 10 * 10)).toInt8.toInt32)) (2 : Int32).toNatClampNeg (vp_nar .byte 32)) (3 : Int32).toNatClampNeg (vp_nar .byte 48)) (4 : Int32).toNatClampNeg (vp_nar .byte 43))))] H := hP
            have hD : va_D A [(mH, .inl (cI, 512, .inl (fun _ => 0))), (m0, .inr (8, [.ref mH, .int 0, .long 0, .int 0, .long 0, .int 0, .int 0, .int 0, .int 0, .int 0, .int 0, .long 0, .int 0, .int 0, .ref mI, .ref mJ, .ref mS, .ref mD, .int 0, .int 0, .int 0, .long 0, .ref mX, .int 0, .int 0, .int 0, .ref mA, .ref mB, .ref mW, .ref mL, .int 4])), (mL, .inl (cB, 16, .inl (upd (upd (upd (upd (upd (fun _ => 0) (0 : Int32).toNatClampNeg (vp_nar .byte (48 + ((n / 10) - (n / 10) / 10 * 10)).toInt8.toInt32)) (1 : Int32).toNatClampNeg (vp_nar .byte (48 + ((n / 1) - (n / 1) / 10 * 10)).toInt8.toInt32)) (2 : Int32).toNatClampNeg (vp_nar .byte 32)) (3 : Int32).toNatClampNeg (vp_nar .byte 48)) (4 : Int32).toNatClampNeg (vp_nar .byte 43))))] := hD
            refine lv_aload_n hx hb dX8_written_97 rfl (lv_at hl 0 rfl) ?_
            refine lv_dup hx hb dX8_written_98 rfl ?_
            refine va_get (D := D) (ci := 8) (v := .int 4) (C := RX8) (T := TX8) (N := 31) hx hb hts iX8_written_X8 hown hK hP 1 rfl rfl 30 (by decide) (hts (.fieldLink RX8 285 "TapeCalculatorModel" "lineSize" "I") (List.mem_of_getElem? (i := 2) rfl)) (fun _ h9 => h9) rfl dX8_written_99 ?_
            refine lv_iconst (v := 1) hx hb dX8_written_102 (by decide) ?_
            refine lv_iadd hx hb dX8_written_103 ?_
            refine lv_topi (fun x_26 ex_26 => ?_)
            obtain rfl : x_26 = 5 := ex_26.trans (by decide)
            refine va_put (D := D) (ci := 8) (v := .int 5) (ty := .int) (C := RX8) (T := TX8) (N := 31) hx hb hts iX8_written_X8 tyX8 tyX8_ok nmX8 hown hK hP hD hS 1 rfl rfl 30 (by decide) (hts (.fieldLink RX8 285 "TapeCalculatorModel" "lineSize" "I") (List.mem_of_getElem? (i := 2) rfl)) (fun _ h9 => h9) rfl (by decide +kernel) rfl rfl (Nat.le_of_ble_eq_true rfl) dX8_written_104 (fun H locs hP hD hS => ?_)
            have hP : va_P D vwCl [(mH, .inl (cI, 512, .inl (fun _ => 0))), (m0, .inr (8, [.ref mH, .int 0, .long 0, .int 0, .long 0, .int 0, .int 0, .int 0, .int 0, .int 0, .int 0, .long 0, .int 0, .int 0, .ref mI, .ref mJ, .ref mS, .ref mD, .int 0, .int 0, .int 0, .long 0, .ref mX, .int 0, .int 0, .int 0, .ref mA, .ref mB, .ref mW, .ref mL, .int 5])), (mL, .inl (cB, 16, .inl (upd (upd (upd (upd (upd (fun _ => 0) (0 : Int32).toNatClampNeg (vp_nar .byte (48 + ((n / 10) - (n / 10) / 10 * 10)).toInt8.toInt32)) (1 : Int32).toNatClampNeg (vp_nar .byte (48 + ((n / 1) - (n / 1) / 10 * 10)).toInt8.toInt32)) (2 : Int32).toNatClampNeg (vp_nar .byte 32)) (3 : Int32).toNatClampNeg (vp_nar .byte 48)) (4 : Int32).toNatClampNeg (vp_nar .byte 43))))] H := hP
            have hD : va_D A [(mH, .inl (cI, 512, .inl (fun _ => 0))), (m0, .inr (8, [.ref mH, .int 0, .long 0, .int 0, .long 0, .int 0, .int 0, .int 0, .int 0, .int 0, .int 0, .long 0, .int 0, .int 0, .ref mI, .ref mJ, .ref mS, .ref mD, .int 0, .int 0, .int 0, .long 0, .ref mX, .int 0, .int 0, .int 0, .ref mA, .ref mB, .ref mW, .ref mL, .int 5])), (mL, .inl (cB, 16, .inl (upd (upd (upd (upd (upd (fun _ => 0) (0 : Int32).toNatClampNeg (vp_nar .byte (48 + ((n / 10) - (n / 10) / 10 * 10)).toInt8.toInt32)) (1 : Int32).toNatClampNeg (vp_nar .byte (48 + ((n / 1) - (n / 1) / 10 * 10)).toInt8.toInt32)) (2 : Int32).toNatClampNeg (vp_nar .byte 32)) (3 : Int32).toNatClampNeg (vp_nar .byte 48)) (4 : Int32).toNatClampNeg (vp_nar .byte 43))))] := hD
            refine lv_aload_n hx hb dX8_written_107 rfl (lv_at hl 0 rfl) ?_
            refine lv_aload_n hx hb dX8_written_108 rfl (lv_at hl 0 rfl) ?_
            refine va_get (D := D) (ci := 8) (v := .ref mH) (C := RX8) (T := TX8) (N := 31) hx hb hts iX8_written_X8 hown hK hP 1 rfl rfl 0 (by decide) (hts (.fieldLink RX8 7 "TapeCalculatorModel" "half" "[I") (List.mem_of_getElem? (i := 4) rfl)) (fun _ h9 => h9) rfl dX8_written_109 ?_
            refine lv_iload_n hx hb dX8_written_112 rfl (lv_at hl 1 rfl) ?_
            refine va_iald hx hb hK hP 0 0 rfl rfl (vp_in_iff.mpr (by omega)) dX8_written_113 ?_
            refine lv_sipush (v := 4095) hx hb dX8_written_114 (by decide) ?_
            refine lv_iand hx hb dX8_written_117 ?_
            refine lv_topi (fun x_27 ex_27 => ?_)
            obtain rfl : x_27 = 0 := ex_27.trans (by decide)
            refine kCallVd (wr := [(mH, .inl (cI, 512, .inl (fun _ => 0)))]) (va_runV (As := [.int 0]) (rest := []) ⟨hx, hb, hml, hown, hts⟩ (r_writeZ_5 l D cI cL cB cZ cT _ m0 mH mI mJ mS mD mX mA mB mW mL (upd (upd (upd (upd (upd (fun _ => 0) (0 : Int32).toNatClampNeg (vp_nar .byte (48 + ((n / 10) - (n / 10) / 10 * 10)).toInt8.toInt32)) (1 : Int32).toNatClampNeg (vp_nar .byte (48 + ((n / 1) - (n / 1) / 10 * 10)).toInt8.toInt32)) (2 : Int32).toNatClampNeg (vp_nar .byte 32)) (3 : Int32).toNatClampNeg (vp_nar .byte 48)) (4 : Int32).toNatClampNeg (vp_nar .byte 43))) (cwV 1 hts gX8_written_X8_write rfl rfl rfl (by decide +kernel) ⟨Nat.le_of_ble_eq_true rfl, Nat.le_of_ble_eq_true rfl⟩) (kPreV hG hP hD [1, 2] rfl (by decide) 0 8 rfl rfl rfl) rfl rfl hl.1 rfl (lv_room (Nat.le_of_ble_eq_true rfl)) dX8_written_118 ⟨Nat.le_of_ble_eq_true rfl, Nat.le_of_ble_eq_true rfl⟩) hA hP hD hS [1, 2] [0] rfl rfl (by decide) (by decide) (fun _ u_r_28 H locs wr_28 hP hD hS => ?_)
            have hP : va_P D vwCl [(mH, .inl (cI, 512, .inl (fun _ => 0))), (m0, .inr (8, [.ref mH, .int 0, .long 0, .int 0, .long 0, .int 0, .int 0, .int 0, .int 0, .int 0, .int 0, .long 0, .int 0, .int 0, .ref mI, .ref mJ, .ref mS, .ref mD, .int 0, .int 0, .int 0, .long 0, .ref mX, .int 0, .int 0, .int 0, .ref mA, .ref mB, .ref mW, .ref mL, .int 6])), (mL, .inl (cB, 16, .inl (upd (upd (upd (upd (upd (upd (fun _ => 0) (0 : Int32).toNatClampNeg (vp_nar .byte (48 + ((n / 10) - (n / 10) / 10 * 10)).toInt8.toInt32)) (1 : Int32).toNatClampNeg (vp_nar .byte (48 + ((n / 1) - (n / 1) / 10 * 10)).toInt8.toInt32)) (2 : Int32).toNatClampNeg (vp_nar .byte 32)) (3 : Int32).toNatClampNeg (vp_nar .byte 48)) (4 : Int32).toNatClampNeg (vp_nar .byte 43)) (5 : Int32).toNatClampNeg (vp_nar .byte 48))))] H := hP
            have hD : va_D A [(mH, .inl (cI, 512, .inl (fun _ => 0))), (m0, .inr (8, [.ref mH, .int 0, .long 0, .int 0, .long 0, .int 0, .int 0, .int 0, .int 0, .int 0, .int 0, .long 0, .int 0, .int 0, .ref mI, .ref mJ, .ref mS, .ref mD, .int 0, .int 0, .int 0, .long 0, .ref mX, .int 0, .int 0, .int 0, .ref mA, .ref mB, .ref mW, .ref mL, .int 6])), (mL, .inl (cB, 16, .inl (upd (upd (upd (upd (upd (upd (fun _ => 0) (0 : Int32).toNatClampNeg (vp_nar .byte (48 + ((n / 10) - (n / 10) / 10 * 10)).toInt8.toInt32)) (1 : Int32).toNatClampNeg (vp_nar .byte (48 + ((n / 1) - (n / 1) / 10 * 10)).toInt8.toInt32)) (2 : Int32).toNatClampNeg (vp_nar .byte 32)) (3 : Int32).toNatClampNeg (vp_nar .byte 48)) (4 : Int32).toNatClampNeg (vp_nar .byte 43)) (5 : Int32).toNatClampNeg (vp_nar .byte 48))))] := hD
            try dsimp only at wr_28
            refine lv_iload_n hx hb dX8_written_121 rfl (lv_at hl 2 rfl) ?_
            refine lv_aload_n hx hb dX8_written_122 rfl (lv_at hl 0 rfl) ?_
            refine va_get (D := D) (ci := 8) (v := .int 6) (C := RX8) (T := TX8) (N := 31) hx hb hts iX8_written_X8 hown hK hP 1 rfl rfl 30 (by decide) (hts (.fieldLink RX8 285 "TapeCalculatorModel" "lineSize" "I") (List.mem_of_getElem? (i := 2) rfl)) (fun _ h9 => h9) rfl dX8_written_123 ?_
            refine lv_icmp_ge (tgt := 138) hx hb dX8_written_126 (by decide) (fun c_126_28 => ?_) (fun c_126_28 => ?_)
            · have t_126_28 := c_126_28
              try simp only [kb_eq0, kb_ne0, lg_cmp_lt, lg_cmp_le, lg_cmp_gt, lg_cmp_ge, lg_cmp_eq] at t_126_28
              try simp only [Int32.lt_iff_toInt_lt, Int32.le_iff_toInt_le, ← Int32.toInt_inj, Int64.lt_iff_toInt_lt, Int64.le_iff_toInt_le, ← Int64.toInt_inj, Int32.toInt_toInt64, Int32.reduceToInt, Int64.reduceToInt] at t_126_28
              refine lv_bipush (v := (-9)) hx hb dX8_written_138 (by decide) ?_
              refine kIret (u := (6, (upd (upd (upd (upd (upd (upd (fun _ => 0) (0 : Int32).toNatClampNeg (vp_nar .byte (48 + ((n / 10) - (n / 10) / 10 * 10)).toInt8.toInt32)) (1 : Int32).toNatClampNeg (vp_nar .byte (48 + ((n / 1) - (n / 1) / 10 * 10)).toInt8.toInt32)) (2 : Int32).toNatClampNeg (vp_nar .byte 32)) (3 : Int32).toNatClampNeg (vp_nar .byte 48)) (4 : Int32).toNatClampNeg (vp_nar .byte 43)) (5 : Int32).toNatClampNeg (vp_nar .byte 48)))) hx hb hr rfl hlocks hS dX8_written_140 ?_ (hP.sub [1, 0, 2] rfl) (hD.sub [1, 0, 2] (by decide) rfl)
              first
                | exact (kif_f (by omega)).symm
                | exact ((kif_t (by omega)).trans (kif_f (by omega))).symm
                | exact ((kif_t (by omega)).trans ((kif_t (by omega)).trans (congrFun hE2 _))).symm
            · have t_126_28 := c_126_28
              try simp only [kb_eq0, kb_ne0, lg_cmp_lt, lg_cmp_le, lg_cmp_gt, lg_cmp_ge, lg_cmp_eq] at t_126_28
              try simp only [Int32.lt_iff_toInt_lt, Int32.le_iff_toInt_le, ← Int32.toInt_inj, Int64.lt_iff_toInt_lt, Int64.le_iff_toInt_le, ← Int64.toInt_inj, Int32.toInt_toInt64, Int32.reduceToInt, Int64.reduceToInt] at t_126_28
              refine lv_aload_n hx hb dX8_written_129 rfl (lv_at hl 0 rfl) ?_
              refine va_get (D := D) (ci := 8) (v := .ref mL) (C := RX8) (T := TX8) (N := 31) hx hb hts iX8_written_X8 hown hK hP 1 rfl rfl 29 (by decide) (hts (.fieldLink RX8 40 "TapeCalculatorModel" "line" "[B") (List.mem_of_getElem? (i := 3) rfl)) (fun _ h9 => h9) rfl dX8_written_130 ?_
              refine lv_iload_n hx hb dX8_written_133 rfl (lv_at hl 2 rfl) ?_
              refine va_bald hx hb hK hP 2 2 rfl rfl (vp_in_iff.mpr (by omega)) dX8_written_134 ?_
              refine lv_goto (tgt := 140) hx hb dX8_written_135 (by decide) ?_
              refine kIret (u := (6, (upd (upd (upd (upd (upd (upd (fun _ => 0) (0 : Int32).toNatClampNeg (vp_nar .byte (48 + ((n / 10) - (n / 10) / 10 * 10)).toInt8.toInt32)) (1 : Int32).toNatClampNeg (vp_nar .byte (48 + ((n / 1) - (n / 1) / 10 * 10)).toInt8.toInt32)) (2 : Int32).toNatClampNeg (vp_nar .byte 32)) (3 : Int32).toNatClampNeg (vp_nar .byte 48)) (4 : Int32).toNatClampNeg (vp_nar .byte 43)) (5 : Int32).toNatClampNeg (vp_nar .byte 48)))) hx hb hr rfl hlocks hS dX8_written_140 ?_ (hP.sub [1, 0, 2] rfl) (hD.sub [1, 0, 2] (by decide) rfl)
              first
                | exact (kif_f (by omega)).symm
                | exact ((kif_t (by omega)).trans (kif_f (by omega))).symm
                | exact ((kif_t (by omega)).trans ((kif_t (by omega)).trans (congrFun hE2 _))).symm
          · exact absurd c_85_23 (by decide)
        · have hE1 := congrArg Int32.toInt (kLn_3 (n := n) hdA hdB)
          simp only [Int32.reduceToInt] at hE1
          have hE2 := kRv_3 (n := n) hdA hdB
          refine lv_aload_n hx hb dX8_written_18 rfl (lv_at hl 0 rfl) ?_
          refine lv_iconst (v := 0) hx hb dX8_written_19 (by decide) ?_
          refine va_put (D := D) (ci := 8) (v := .int 0) (ty := .int) (C := RX8) (T := TX8) (N := 31) hx hb hts iX8_written_X8 tyX8 tyX8_ok nmX8 hown hK hP hD hS 0 rfl rfl 30 (by decide) (hts (.fieldLink RX8 285 "TapeCalculatorModel" "lineSize" "I") (List.mem_of_getElem? (i := 2) rfl)) (fun _ h9 => h9) rfl (by decide +kernel) rfl rfl (Nat.le_of_ble_eq_true rfl) dX8_written_20 (fun H locs hP hD hS => ?_)
          have hP : va_P D vwCl [(m0, .inr (8, [.ref mH, .int 0, .long 0, .int 0, .long 0, .int 0, .int 0, .int 0, .int 0, .int 0, .int 0, .long 0, .int 0, .int 0, .ref mI, .ref mJ, .ref mS, .ref mD, .int 0, .int 0, .int 0, .long 0, .ref mX, .int 0, .int 0, .int 0, .ref mA, .ref mB, .ref mW, .ref mL, .int 0])), (mH, .inl (cI, 512, .inl (fun _ => 0))), (mL, .inl (cB, 16, .inl (fun _ => 0)))] H := hP
          have hD : va_D A [(m0, .inr (8, [.ref mH, .int 0, .long 0, .int 0, .long 0, .int 0, .int 0, .int 0, .int 0, .int 0, .int 0, .long 0, .int 0, .int 0, .ref mI, .ref mJ, .ref mS, .ref mD, .int 0, .int 0, .int 0, .long 0, .ref mX, .int 0, .int 0, .int 0, .ref mA, .ref mB, .ref mW, .ref mL, .int 0])), (mH, .inl (cI, 512, .inl (fun _ => 0))), (mL, .inl (cB, 16, .inl (fun _ => 0)))] := hD
          refine lv_aload_n hx hb dX8_written_23 rfl (lv_at hl 0 rfl) ?_
          refine lv_iload_n hx hb dX8_written_24 rfl (lv_at hl 1 rfl) ?_
          refine kCallVd (wr := [(mH, .inl (cI, 512, .inl (fun _ => 0)))]) (va_runV (As := [.int n]) (rest := []) ⟨hx, hb, hml, hown, hts⟩ (r_writeN_3 l D cI cL cB cZ cT _ m0 mH mI mJ mS mD mX mA mB mW mL n ⟨by omega, by omega⟩) (cwV 1 hts gX8_written_X8_write rfl rfl rfl (by decide +kernel) ⟨Nat.le_of_ble_eq_true rfl, Nat.le_of_ble_eq_true rfl⟩) (kPreV hG hP hD [0, 2] rfl (by decide) 0 8 rfl rfl rfl) rfl rfl hl.1 rfl (lv_room (Nat.le_of_ble_eq_true rfl)) dX8_written_25 ⟨Nat.le_of_ble_eq_true rfl, Nat.le_of_ble_eq_true rfl⟩) hA hP hD hS [0, 2] [1] rfl rfl (by decide) (by decide) (fun _ u_r_30 H locs wr_30 hP hD hS => ?_)
          have hP : va_P D vwCl [(mH, .inl (cI, 512, .inl (fun _ => 0))), (m0, .inr (8, [.ref mH, .int 0, .long 0, .int 0, .long 0, .int 0, .int 0, .int 0, .int 0, .int 0, .int 0, .long 0, .int 0, .int 0, .ref mI, .ref mJ, .ref mS, .ref mD, .int 0, .int 0, .int 0, .long 0, .ref mX, .int 0, .int 0, .int 0, .ref mA, .ref mB, .ref mW, .ref mL, .int 3])), (mL, .inl (cB, 16, .inl (upd (upd (upd (fun _ => 0) (0 : Int32).toNatClampNeg (vp_nar .byte (48 + ((n / 100) - (n / 100) / 10 * 10)).toInt8.toInt32)) (1 : Int32).toNatClampNeg (vp_nar .byte (48 + ((n / 10) - (n / 10) / 10 * 10)).toInt8.toInt32)) (2 : Int32).toNatClampNeg (vp_nar .byte (48 + ((n / 1) - (n / 1) / 10 * 10)).toInt8.toInt32))))] H := hP
          have hD : va_D A [(mH, .inl (cI, 512, .inl (fun _ => 0))), (m0, .inr (8, [.ref mH, .int 0, .long 0, .int 0, .long 0, .int 0, .int 0, .int 0, .int 0, .int 0, .int 0, .long 0, .int 0, .int 0, .ref mI, .ref mJ, .ref mS, .ref mD, .int 0, .int 0, .int 0, .long 0, .ref mX, .int 0, .int 0, .int 0, .ref mA, .ref mB, .ref mW, .ref mL, .int 3])), (mL, .inl (cB, 16, .inl (upd (upd (upd (fun _ => 0) (0 : Int32).toNatClampNeg (vp_nar .byte (48 + ((n / 100) - (n / 100) / 10 * 10)).toInt8.toInt32)) (1 : Int32).toNatClampNeg (vp_nar .byte (48 + ((n / 10) - (n / 10) / 10 * 10)).toInt8.toInt32)) (2 : Int32).toNatClampNeg (vp_nar .byte (48 + ((n / 1) - (n / 1) / 10 * 10)).toInt8.toInt32))))] := hD
          try dsimp only at wr_30
          refine lv_aload_n hx hb dX8_written_28 rfl (lv_at hl 0 rfl) ?_
          refine va_get (D := D) (ci := 8) (v := .ref mL) (C := RX8) (T := TX8) (N := 31) hx hb hts iX8_written_X8 hown hK hP 1 rfl rfl 29 (by decide) (hts (.fieldLink RX8 40 "TapeCalculatorModel" "line" "[B") (List.mem_of_getElem? (i := 3) rfl)) (fun _ h9 => h9) rfl dX8_written_29 ?_
          refine lv_aload_n hx hb dX8_written_32 rfl (lv_at hl 0 rfl) ?_
          refine va_get (D := D) (ci := 8) (v := .int 3) (C := RX8) (T := TX8) (N := 31) hx hb hts iX8_written_X8 hown hK hP 1 rfl rfl 30 (by decide) (hts (.fieldLink RX8 285 "TapeCalculatorModel" "lineSize" "I") (List.mem_of_getElem? (i := 2) rfl)) (fun _ h9 => h9) rfl dX8_written_33 ?_
          refine lv_bipush (v := 32) hx hb dX8_written_36 (by decide) ?_
          refine va_bast hx hb hK hP hD hS 2 2 rfl rfl (vp_in_iff.mpr (by decide)) dX8_written_38 (fun H locs hP hD hS => ?_)
          have hP : va_P D vwCl [(mH, .inl (cI, 512, .inl (fun _ => 0))), (m0, .inr (8, [.ref mH, .int 0, .long 0, .int 0, .long 0, .int 0, .int 0, .int 0, .int 0, .int 0, .int 0, .long 0, .int 0, .int 0, .ref mI, .ref mJ, .ref mS, .ref mD, .int 0, .int 0, .int 0, .long 0, .ref mX, .int 0, .int 0, .int 0, .ref mA, .ref mB, .ref mW, .ref mL, .int 3])), (mL, .inl (cB, 16, .inl (upd (upd (upd (upd (fun _ => 0) (0 : Int32).toNatClampNeg (vp_nar .byte (48 + ((n / 100) - (n / 100) / 10 * 10)).toInt8.toInt32)) (1 : Int32).toNatClampNeg (vp_nar .byte (48 + ((n / 10) - (n / 10) / 10 * 10)).toInt8.toInt32)) (2 : Int32).toNatClampNeg (vp_nar .byte (48 + ((n / 1) - (n / 1) / 10 * 10)).toInt8.toInt32)) (3 : Int32).toNatClampNeg (vp_nar .byte 32))))] H := hP
          have hD : va_D A [(mH, .inl (cI, 512, .inl (fun _ => 0))), (m0, .inr (8, [.ref mH, .int 0, .long 0, .int 0, .long 0, .int 0, .int 0, .int 0, .int 0, .int 0, .int 0, .long 0, .int 0, .int 0, .ref mI, .ref mJ, .ref mS, .ref mD, .int 0, .int 0, .int 0, .long 0, .ref mX, .int 0, .int 0, .int 0, .ref mA, .ref mB, .ref mW, .ref mL, .int 3])), (mL, .inl (cB, 16, .inl (upd (upd (upd (upd (fun _ => 0) (0 : Int32).toNatClampNeg (vp_nar .byte (48 + ((n / 100) - (n / 100) / 10 * 10)).toInt8.toInt32)) (1 : Int32).toNatClampNeg (vp_nar .byte (48 + ((n / 10) - (n / 10) / 10 * 10)).toInt8.toInt32)) (2 : Int32).toNatClampNeg (vp_nar .byte (48 + ((n / 1) - (n / 1) / 10 * 10)).toInt8.toInt32)) (3 : Int32).toNatClampNeg (vp_nar .byte 32))))] := hD
          refine lv_aload_n hx hb dX8_written_39 rfl (lv_at hl 0 rfl) ?_
          refine lv_dup hx hb dX8_written_40 rfl ?_
          refine va_get (D := D) (ci := 8) (v := .int 3) (C := RX8) (T := TX8) (N := 31) hx hb hts iX8_written_X8 hown hK hP 1 rfl rfl 30 (by decide) (hts (.fieldLink RX8 285 "TapeCalculatorModel" "lineSize" "I") (List.mem_of_getElem? (i := 2) rfl)) (fun _ h9 => h9) rfl dX8_written_41 ?_
          refine lv_iconst (v := 1) hx hb dX8_written_44 (by decide) ?_
          refine lv_iadd hx hb dX8_written_45 ?_
          refine lv_topi (fun x_31 ex_31 => ?_)
          obtain rfl : x_31 = 4 := ex_31.trans (by decide)
          refine va_put (D := D) (ci := 8) (v := .int 4) (ty := .int) (C := RX8) (T := TX8) (N := 31) hx hb hts iX8_written_X8 tyX8 tyX8_ok nmX8 hown hK hP hD hS 1 rfl rfl 30 (by decide) (hts (.fieldLink RX8 285 "TapeCalculatorModel" "lineSize" "I") (List.mem_of_getElem? (i := 2) rfl)) (fun _ h9 => h9) rfl (by decide +kernel) rfl rfl (Nat.le_of_ble_eq_true rfl) dX8_written_46 (fun H locs hP hD hS => ?_)
          have hP : va_P D vwCl [(mH, .inl (cI, 512, .inl (fun _ => 0))), (m0, .inr (8, [.ref mH, .int 0, .long 0, .int 0, .long 0, .int 0, .int 0, .int 0, .int 0, .int 0, .int 0, .long 0, .int 0, .int 0, .ref mI, .ref mJ, .ref mS, .ref mD, .int 0, .int 0, .int 0, .long 0, .ref mX, .int 0, .int 0, .int 0, .ref mA, .ref mB, .ref mW, .ref mL, .int 4])), (mL, .inl (cB, 16, .inl (upd (upd (upd (upd (fun _ => 0) (0 : Int32).toNatClampNeg (vp_nar .byte (48 + ((n / 100) - (n / 100) / 10 * 10)).toInt8.toInt32)) (1 : Int32).toNatClampNeg (vp_nar .byte (48 + ((n / 10) - (n / 10) / 10 * 10)).toInt8.toInt32)) (2 : Int32).toNatClampNeg (vp_nar .byte (48 + ((n / 1) - (n / 1) / 10 * 10)).toInt8.toInt32)) (3 : Int32).toNatClampNeg (vp_nar .byte 32))))] H := hP
          have hD : va_D A [(mH, .inl (cI, 512, .inl (fun _ => 0))), (m0, .inr (8, [.ref mH, .int 0, .long 0, .int 0, .long 0, .int 0, .int 0, .int 0, .int 0, .int 0, .int 0, .long 0, .int 0, .int 0, .ref mI, .ref mJ, .ref mS, .ref mD, .int 0, .int 0, .int 0, .long 0, .ref mX, .int 0, .int 0, .int 0, .ref mA, .ref mB, .ref mW, .ref mL, .int 4])), (mL, .inl (cB, 16, .inl (upd (upd (upd (upd (fun _ => 0) (0 : Int32).toNatClampNeg (vp_nar .byte (48 + ((n / 100) - (n / 100) / 10 * 10)).toInt8.toInt32)) (1 : Int32).toNatClampNeg (vp_nar .byte (48 + ((n / 10) - (n / 10) / 10 * 10)).toInt8.toInt32)) (2 : Int32).toNatClampNeg (vp_nar .byte (48 + ((n / 1) - (n / 1) / 10 * 10)).toInt8.toInt32)) (3 : Int32).toNatClampNeg (vp_nar .byte 32))))] := hD
          refine lv_aload_n hx hb dX8_written_49 rfl (lv_at hl 0 rfl) ?_
          refine lv_aload_n hx hb dX8_written_50 rfl (lv_at hl 0 rfl) ?_
          refine va_get (D := D) (ci := 8) (v := .ref mH) (C := RX8) (T := TX8) (N := 31) hx hb hts iX8_written_X8 hown hK hP 1 rfl rfl 0 (by decide) (hts (.fieldLink RX8 7 "TapeCalculatorModel" "half" "[I") (List.mem_of_getElem? (i := 4) rfl)) (fun _ h9 => h9) rfl dX8_written_51 ?_
          refine lv_iload_n hx hb dX8_written_54 rfl (lv_at hl 1 rfl) ?_
          refine va_iald hx hb hK hP 0 0 rfl rfl (vp_in_iff.mpr (by omega)) dX8_written_55 ?_
          refine lv_bipush (v := 12) hx hb dX8_written_56 (by decide) ?_
          refine lv_ishr hx hb dX8_written_58 ?_
          refine lv_topi (fun x_32 ex_32 => ?_)
          obtain rfl : x_32 = 0 := ex_32.trans (by decide)
          refine lv_bipush (v := 31) hx hb dX8_written_59 (by decide) ?_
          refine lv_iand hx hb dX8_written_61 ?_
          refine lv_topi (fun x_33 ex_33 => ?_)
          obtain rfl : x_33 = 0 := ex_33.trans (by decide)
          refine kCallVd (wr := [(mH, .inl (cI, 512, .inl (fun _ => 0)))]) (va_runV (As := [.int 0]) (rest := []) ⟨hx, hb, hml, hown, hts⟩ (r_writeZ_4 l D cI cL cB cZ cT _ m0 mH mI mJ mS mD mX mA mB mW mL (upd (upd (upd (upd (fun _ => 0) (0 : Int32).toNatClampNeg (vp_nar .byte (48 + ((n / 100) - (n / 100) / 10 * 10)).toInt8.toInt32)) (1 : Int32).toNatClampNeg (vp_nar .byte (48 + ((n / 10) - (n / 10) / 10 * 10)).toInt8.toInt32)) (2 : Int32).toNatClampNeg (vp_nar .byte (48 + ((n / 1) - (n / 1) / 10 * 10)).toInt8.toInt32)) (3 : Int32).toNatClampNeg (vp_nar .byte 32))) (cwV 1 hts gX8_written_X8_write rfl rfl rfl (by decide +kernel) ⟨Nat.le_of_ble_eq_true rfl, Nat.le_of_ble_eq_true rfl⟩) (kPreV hG hP hD [1, 2] rfl (by decide) 0 8 rfl rfl rfl) rfl rfl hl.1 rfl (lv_room (Nat.le_of_ble_eq_true rfl)) dX8_written_62 ⟨Nat.le_of_ble_eq_true rfl, Nat.le_of_ble_eq_true rfl⟩) hA hP hD hS [1, 2] [0] rfl rfl (by decide) (by decide) (fun _ u_r_34 H locs wr_34 hP hD hS => ?_)
          have hP : va_P D vwCl [(mH, .inl (cI, 512, .inl (fun _ => 0))), (m0, .inr (8, [.ref mH, .int 0, .long 0, .int 0, .long 0, .int 0, .int 0, .int 0, .int 0, .int 0, .int 0, .long 0, .int 0, .int 0, .ref mI, .ref mJ, .ref mS, .ref mD, .int 0, .int 0, .int 0, .long 0, .ref mX, .int 0, .int 0, .int 0, .ref mA, .ref mB, .ref mW, .ref mL, .int 5])), (mL, .inl (cB, 16, .inl (upd (upd (upd (upd (upd (fun _ => 0) (0 : Int32).toNatClampNeg (vp_nar .byte (48 + ((n / 100) - (n / 100) / 10 * 10)).toInt8.toInt32)) (1 : Int32).toNatClampNeg (vp_nar .byte (48 + ((n / 10) - (n / 10) / 10 * 10)).toInt8.toInt32)) (2 : Int32).toNatClampNeg (vp_nar .byte (48 + ((n / 1) - (n / 1) / 10 * 10)).toInt8.toInt32)) (3 : Int32).toNatClampNeg (vp_nar .byte 32)) (4 : Int32).toNatClampNeg (vp_nar .byte 48))))] H := hP
          have hD : va_D A [(mH, .inl (cI, 512, .inl (fun _ => 0))), (m0, .inr (8, [.ref mH, .int 0, .long 0, .int 0, .long 0, .int 0, .int 0, .int 0, .int 0, .int 0, .int 0, .long 0, .int 0, .int 0, .ref mI, .ref mJ, .ref mS, .ref mD, .int 0, .int 0, .int 0, .long 0, .ref mX, .int 0, .int 0, .int 0, .ref mA, .ref mB, .ref mW, .ref mL, .int 5])), (mL, .inl (cB, 16, .inl (upd (upd (upd (upd (upd (fun _ => 0) (0 : Int32).toNatClampNeg (vp_nar .byte (48 + ((n / 100) - (n / 100) / 10 * 10)).toInt8.toInt32)) (1 : Int32).toNatClampNeg (vp_nar .byte (48 + ((n / 10) - (n / 10) / 10 * 10)).toInt8.toInt32)) (2 : Int32).toNatClampNeg (vp_nar .byte (48 + ((n / 1) - (n / 1) / 10 * 10)).toInt8.toInt32)) (3 : Int32).toNatClampNeg (vp_nar .byte 32)) (4 : Int32).toNatClampNeg (vp_nar .byte 48))))] := hD
          try dsimp only at wr_34
          refine lv_aload_n hx hb dX8_written_65 rfl (lv_at hl 0 rfl) ?_
          refine va_get (D := D) (ci := 8) (v := .ref mL) (C := RX8) (T := TX8) (N := 31) hx hb hts iX8_written_X8 hown hK hP 1 rfl rfl 29 (by decide) (hts (.fieldLink RX8 40 "TapeCalculatorModel" "line" "[B") (List.mem_of_getElem? (i := 3) rfl)) (fun _ h9 => h9) rfl dX8_written_66 ?_
          refine lv_aload_n hx hb dX8_written_69 rfl (lv_at hl 0 rfl) ?_
          refine va_get (D := D) (ci := 8) (v := .int 5) (C := RX8) (T := TX8) (N := 31) hx hb hts iX8_written_X8 hown hK hP 1 rfl rfl 30 (by decide) (hts (.fieldLink RX8 285 "TapeCalculatorModel" "lineSize" "I") (List.mem_of_getElem? (i := 2) rfl)) (fun _ h9 => h9) rfl dX8_written_70 ?_
          refine lv_aload_n hx hb dX8_written_73 rfl (lv_at hl 0 rfl) ?_
          refine va_get (D := D) (ci := 8) (v := .ref mH) (C := RX8) (T := TX8) (N := 31) hx hb hts iX8_written_X8 hown hK hP 1 rfl rfl 0 (by decide) (hts (.fieldLink RX8 7 "TapeCalculatorModel" "half" "[I") (List.mem_of_getElem? (i := 4) rfl)) (fun _ h9 => h9) rfl dX8_written_74 ?_
          refine lv_iload_n hx hb dX8_written_77 rfl (lv_at hl 1 rfl) ?_
          refine va_iald hx hb hK hP 0 0 rfl rfl (vp_in_iff.mpr (by omega)) dX8_written_78 ?_
          refine lv_bipush (v := 17) hx hb dX8_written_79 (by decide) ?_
          refine lv_ishr hx hb dX8_written_81 ?_
          refine lv_topi (fun x_35 ex_35 => ?_)
          obtain rfl : x_35 = 0 := ex_35.trans (by decide)
          refine lv_iconst (v := 1) hx hb dX8_written_82 (by decide) ?_
          refine lv_iand hx hb dX8_written_83 ?_
          refine lv_topi (fun x_36 ex_36 => ?_)
          obtain rfl : x_36 = 0 := ex_36.trans (by decide)
          refine lv_iconst (v := 1) hx hb dX8_written_84 (by decide) ?_
          refine lv_icmp_ne (tgt := 93) hx hb dX8_written_85 (by decide) (fun c_85_36 => ?_) (fun c_85_36 => ?_)
          · have t_85_36 := c_85_36
            try simp only [kb_eq0, kb_ne0, lg_cmp_lt, lg_cmp_le, lg_cmp_gt, lg_cmp_ge, lg_cmp_eq] at t_85_36
            try simp only [Int32.lt_iff_toInt_lt, Int32.le_iff_toInt_le, ← Int32.toInt_inj, Int64.lt_iff_toInt_lt, Int64.le_iff_toInt_le, ← Int64.toInt_inj, Int32.toInt_toInt64, Int32.reduceToInt, Int64.reduceToInt] at t_85_36
            refine lv_bipush (v := 43) hx hb dX8_written_93 (by decide) ?_
            refine lv_i2b hx hb dX8_written_95 rfl ?_
            refine lv_topi (fun x_38 ex_38 => ?_)
            obtain rfl : x_38 = 43 := ex_38.trans (by decide)
            refine va_bast hx hb hK hP hD hS 2 2 rfl rfl (vp_in_iff.mpr (by decide)) dX8_written_96 (fun H locs hP hD hS => ?_)
            have hP : va_P D vwCl [(mH, .inl (cI, 512, .inl (fun _ => 0))), (m0, .inr (8, [.ref mH, .int 0, .long 0, .int 0, .long 0, .int 0, .int 0, .int 0, .int 0, .int 0, .int 0, .long 0, .int 0, .int 0, .ref mI, .ref mJ, .ref mS, .ref mD, .int 0, .int 0, .int 0, .long 0, .ref mX, .int 0, .int 0, .int 0, .ref mA, .ref mB, .ref mW, .ref mL, .int 5])), (mL, .inl (cB, 16, .inl (upd (upd (upd (upd (upd (upd (fun _ => 0) (0 : Int32).toNatClampNeg (vp_nar .byte (48 + ((n / 100) - (n / 100) / 10 * 10)).toInt8.toInt32)) (1 : Int32).toNatClampNeg (vp_nar .byte (48 + ((n / 10) - (n / 10) / 10 * 10)).toInt8.toInt32)) (2 : Int32).toNatClampNeg (vp_nar .byte (48 + ((n / 1) - (n / 1) / 10 * 10)).toInt8.toInt32)) (3 : Int32).toNatClampNeg (vp_nar .byte 32)) (4 : Int32).toNatClampNeg (vp_nar .byte 48)) (5 : Int32).toNatClampNeg (vp_nar .byte 43))))] H := hP
            have hD : va_D A [(mH, .inl (cI, 512, .inl (fun _ => 0))), (m0, .inr (8, [.ref mH, .int 0, .long 0, .int 0, .long 0, .int 0, .int 0, .int 0, .int 0, .int 0, .int 0, .long 0, .int 0, .int 0, .ref mI, .ref mJ, .ref mS, .ref mD, .int 0, .int 0, .int 0, .long 0, .ref mX, .int 0, .int 0, .int 0, .ref mA, .ref mB, .ref mW, .ref mL, .int 5])), (mL, .inl (cB, 16, .inl (upd (upd (upd (upd (upd (upd (fun _ => 0) (0 : Int32).toNatClampNeg (vp_nar .byte (48 + ((n / 100) - (n / 100) / 10 * 10)).toInt8.toInt32)) (1 : Int32).toNatClampNeg (vp_nar .byte (48 + ((n / 10) - (n / 10) / 10 * 10)).toInt8.toInt32)) (2 : Int32).toNatClampNeg (vp_nar .byte (48 + ((n / 1) - (n / 1) / 10 * 10)).toInt8.toInt32)) (3 : Int32).toNatClampNeg (vp_nar .byte 32)) (4 : Int32).toNatClampNeg (vp_nar .byte 48)) (5 : Int32).toNatClampNeg (vp_nar .byte 43))))] := hD
            refine lv_aload_n hx hb dX8_written_97 rfl (lv_at hl 0 rfl) ?_
            refine lv_dup hx hb dX8_written_98 rfl ?_
            refine va_get (D := D) (ci := 8) (v := .int 5) (C := RX8) (T := TX8) (N := 31) hx hb hts iX8_written_X8 hown hK hP 1 rfl rfl 30 (by decide) (hts (.fieldLink RX8 285 "TapeCalculatorModel" "lineSize" "I") (List.mem_of_getElem? (i := 2) rfl)) (fun _ h9 => h9) rfl dX8_written_99 ?_
            refine lv_iconst (v := 1) hx hb dX8_written_102 (by decide) ?_
            refine lv_iadd hx hb dX8_written_103 ?_
            refine lv_topi (fun x_39 ex_39 => ?_)
            obtain rfl : x_39 = 6 := ex_39.trans (by decide)
            refine va_put (D := D) (ci := 8) (v := .int 6) (ty := .int) (C := RX8) (T := TX8) (N := 31) hx hb hts iX8_written_X8 tyX8 tyX8_ok nmX8 hown hK hP hD hS 1 rfl rfl 30 (by decide) (hts (.fieldLink RX8 285 "TapeCalculatorModel" "lineSize" "I") (List.mem_of_getElem? (i := 2) rfl)) (fun _ h9 => h9) rfl (by decide +kernel) rfl rfl (Nat.le_of_ble_eq_true rfl) dX8_written_104 (fun H locs hP hD hS => ?_)
            have hP : va_P D vwCl [(mH, .inl (cI, 512, .inl (fun _ => 0))), (m0, .inr (8, [.ref mH, .int 0, .long 0, .int 0, .long 0, .int 0, .int 0, .int 0, .int 0, .int 0, .int 0, .long 0, .int 0, .int 0, .ref mI, .ref mJ, .ref mS, .ref mD, .int 0, .int 0, .int 0, .long 0, .ref mX, .int 0, .int 0, .int 0, .ref mA, .ref mB, .ref mW, .ref mL, .int 6])), (mL, .inl (cB, 16, .inl (upd (upd (upd (upd (upd (upd (fun _ => 0) (0 : Int32).toNatClampNeg (vp_nar .byte (48 + ((n / 100) - (n / 100) / 10 * 10)).toInt8.toInt32)) (1 : Int32).toNatClampNeg (vp_nar .byte (48 + ((n / 10) - (n / 10) / 10 * 10)).toInt8.toInt32)) (2 : Int32).toNatClampNeg (vp_nar .byte (48 + ((n / 1) - (n / 1) / 10 * 10)).toInt8.toInt32)) (3 : Int32).toNatClampNeg (vp_nar .byte 32)) (4 : Int32).toNatClampNeg (vp_nar .byte 48)) (5 : Int32).toNatClampNeg (vp_nar .byte 43))))] H := hP
            have hD : va_D A [(mH, .inl (cI, 512, .inl (fun _ => 0))), (m0, .inr (8, [.ref mH, .int 0, .long 0, .int 0, .long 0, .int 0, .int 0, .int 0, .int 0, .int 0, .int 0, .long 0, .int 0, .int 0, .ref mI, .ref mJ, .ref mS, .ref mD, .int 0, .int 0, .int 0, .long 0, .ref mX, .int 0, .int 0, .int 0, .ref mA, .ref mB, .ref mW, .ref mL, .int 6])), (mL, .inl (cB, 16, .inl (upd (upd (upd (upd (upd (upd (fun _ => 0) (0 : Int32).toNatClampNeg (vp_nar .byte (48 + ((n / 100) - (n / 100) / 10 * 10)).toInt8.toInt32)) (1 : Int32).toNatClampNeg (vp_nar .byte (48 + ((n / 10) - (n / 10) / 10 * 10)).toInt8.toInt32)) (2 : Int32).toNatClampNeg (vp_nar .byte (48 + ((n / 1) - (n / 1) / 10 * 10)).toInt8.toInt32)) (3 : Int32).toNatClampNeg (vp_nar .byte 32)) (4 : Int32).toNatClampNeg (vp_nar .byte 48)) (5 : Int32).toNatClampNeg (vp_nar .byte 43))))] := hD
            refine lv_aload_n hx hb dX8_written_107 rfl (lv_at hl 0 rfl) ?_
            refine lv_aload_n hx hb dX8_written_108 rfl (lv_at hl 0 rfl) ?_
            refine va_get (D := D) (ci := 8) (v := .ref mH) (C := RX8) (T := TX8) (N := 31) hx hb hts iX8_written_X8 hown hK hP 1 rfl rfl 0 (by decide) (hts (.fieldLink RX8 7 "TapeCalculatorModel" "half" "[I") (List.mem_of_getElem? (i := 4) rfl)) (fun _ h9 => h9) rfl dX8_written_109 ?_
            refine lv_iload_n hx hb dX8_written_112 rfl (lv_at hl 1 rfl) ?_
            refine va_iald hx hb hK hP 0 0 rfl rfl (vp_in_iff.mpr (by omega)) dX8_written_113 ?_
            refine lv_sipush (v := 4095) hx hb dX8_written_114 (by decide) ?_
            refine lv_iand hx hb dX8_written_117 ?_
            refine lv_topi (fun x_40 ex_40 => ?_)
            obtain rfl : x_40 = 0 := ex_40.trans (by decide)
            refine kCallVd (wr := [(mH, .inl (cI, 512, .inl (fun _ => 0)))]) (va_runV (As := [.int 0]) (rest := []) ⟨hx, hb, hml, hown, hts⟩ (r_writeZ_6 l D cI cL cB cZ cT _ m0 mH mI mJ mS mD mX mA mB mW mL (upd (upd (upd (upd (upd (upd (fun _ => 0) (0 : Int32).toNatClampNeg (vp_nar .byte (48 + ((n / 100) - (n / 100) / 10 * 10)).toInt8.toInt32)) (1 : Int32).toNatClampNeg (vp_nar .byte (48 + ((n / 10) - (n / 10) / 10 * 10)).toInt8.toInt32)) (2 : Int32).toNatClampNeg (vp_nar .byte (48 + ((n / 1) - (n / 1) / 10 * 10)).toInt8.toInt32)) (3 : Int32).toNatClampNeg (vp_nar .byte 32)) (4 : Int32).toNatClampNeg (vp_nar .byte 48)) (5 : Int32).toNatClampNeg (vp_nar .byte 43))) (cwV 1 hts gX8_written_X8_write rfl rfl rfl (by decide +kernel) ⟨Nat.le_of_ble_eq_true rfl, Nat.le_of_ble_eq_true rfl⟩) (kPreV hG hP hD [1, 2] rfl (by decide) 0 8 rfl rfl rfl) rfl rfl hl.1 rfl (lv_room (Nat.le_of_ble_eq_true rfl)) dX8_written_118 ⟨Nat.le_of_ble_eq_true rfl, Nat.le_of_ble_eq_true rfl⟩) hA hP hD hS [1, 2] [0] rfl rfl (by decide) (by decide) (fun _ u_r_41 H locs wr_41 hP hD hS => ?_)
            have hP : va_P D vwCl [(mH, .inl (cI, 512, .inl (fun _ => 0))), (m0, .inr (8, [.ref mH, .int 0, .long 0, .int 0, .long 0, .int 0, .int 0, .int 0, .int 0, .int 0, .int 0, .long 0, .int 0, .int 0, .ref mI, .ref mJ, .ref mS, .ref mD, .int 0, .int 0, .int 0, .long 0, .ref mX, .int 0, .int 0, .int 0, .ref mA, .ref mB, .ref mW, .ref mL, .int 7])), (mL, .inl (cB, 16, .inl (upd (upd (upd (upd (upd (upd (upd (fun _ => 0) (0 : Int32).toNatClampNeg (vp_nar .byte (48 + ((n / 100) - (n / 100) / 10 * 10)).toInt8.toInt32)) (1 : Int32).toNatClampNeg (vp_nar .byte (48 + ((n / 10) - (n / 10) / 10 * 10)).toInt8.toInt32)) (2 : Int32).toNatClampNeg (vp_nar .byte (48 + ((n / 1) - (n / 1) / 10 * 10)).toInt8.toInt32)) (3 : Int32).toNatClampNeg (vp_nar .byte 32)) (4 : Int32).toNatClampNeg (vp_nar .byte 48)) (5 : Int32).toNatClampNeg (vp_nar .byte 43)) (6 : Int32).toNatClampNeg (vp_nar .byte 48))))] H := hP
            have hD : va_D A [(mH, .inl (cI, 512, .inl (fun _ => 0))), (m0, .inr (8, [.ref mH, .int 0, .long 0, .int 0, .long 0, .int 0, .int 0, .int 0, .int 0, .int 0, .int 0, .long 0, .int 0, .int 0, .ref mI, .ref mJ, .ref mS, .ref mD, .int 0, .int 0, .int 0, .long 0, .ref mX, .int 0, .int 0, .int 0, .ref mA, .ref mB, .ref mW, .ref mL, .int 7])), (mL, .inl (cB, 16, .inl (upd (upd (upd (upd (upd (upd (upd (fun _ => 0) (0 : Int32).toNatClampNeg (vp_nar .byte (48 + ((n / 100) - (n / 100) / 10 * 10)).toInt8.toInt32)) (1 : Int32).toNatClampNeg (vp_nar .byte (48 + ((n / 10) - (n / 10) / 10 * 10)).toInt8.toInt32)) (2 : Int32).toNatClampNeg (vp_nar .byte (48 + ((n / 1) - (n / 1) / 10 * 10)).toInt8.toInt32)) (3 : Int32).toNatClampNeg (vp_nar .byte 32)) (4 : Int32).toNatClampNeg (vp_nar .byte 48)) (5 : Int32).toNatClampNeg (vp_nar .byte 43)) (6 : Int32).toNatClampNeg (vp_nar .byte 48))))] := hD
            try dsimp only at wr_41
            refine lv_iload_n hx hb dX8_written_121 rfl (lv_at hl 2 rfl) ?_
            refine lv_aload_n hx hb dX8_written_122 rfl (lv_at hl 0 rfl) ?_
            refine va_get (D := D) (ci := 8) (v := .int 7) (C := RX8) (T := TX8) (N := 31) hx hb hts iX8_written_X8 hown hK hP 1 rfl rfl 30 (by decide) (hts (.fieldLink RX8 285 "TapeCalculatorModel" "lineSize" "I") (List.mem_of_getElem? (i := 2) rfl)) (fun _ h9 => h9) rfl dX8_written_123 ?_
            refine lv_icmp_ge (tgt := 138) hx hb dX8_written_126 (by decide) (fun c_126_41 => ?_) (fun c_126_41 => ?_)
            · have t_126_41 := c_126_41
              try simp only [kb_eq0, kb_ne0, lg_cmp_lt, lg_cmp_le, lg_cmp_gt, lg_cmp_ge, lg_cmp_eq] at t_126_41
              try simp only [Int32.lt_iff_toInt_lt, Int32.le_iff_toInt_le, ← Int32.toInt_inj, Int64.lt_iff_toInt_lt, Int64.le_iff_toInt_le, ← Int64.toInt_inj, Int32.toInt_toInt64, Int32.reduceToInt, Int64.reduceToInt] at t_126_41
              refine lv_bipush (v := (-9)) hx hb dX8_written_138 (by decide) ?_
              refine kIret (u := (7, (upd (upd (upd (upd (upd (upd (upd (fun _ => 0) (0 : Int32).toNatClampNeg (vp_nar .byte (48 + ((n / 100) - (n / 100) / 10 * 10)).toInt8.toInt32)) (1 : Int32).toNatClampNeg (vp_nar .byte (48 + ((n / 10) - (n / 10) / 10 * 10)).toInt8.toInt32)) (2 : Int32).toNatClampNeg (vp_nar .byte (48 + ((n / 1) - (n / 1) / 10 * 10)).toInt8.toInt32)) (3 : Int32).toNatClampNeg (vp_nar .byte 32)) (4 : Int32).toNatClampNeg (vp_nar .byte 48)) (5 : Int32).toNatClampNeg (vp_nar .byte 43)) (6 : Int32).toNatClampNeg (vp_nar .byte 48)))) hx hb hr rfl hlocks hS dX8_written_140 ?_ (hP.sub [1, 0, 2] rfl) (hD.sub [1, 0, 2] (by decide) rfl)
              first
                | exact (kif_f (by omega)).symm
                | exact ((kif_t (by omega)).trans (kif_f (by omega))).symm
                | exact ((kif_t (by omega)).trans ((kif_t (by omega)).trans (congrFun hE2 _))).symm
            · have t_126_41 := c_126_41
              try simp only [kb_eq0, kb_ne0, lg_cmp_lt, lg_cmp_le, lg_cmp_gt, lg_cmp_ge, lg_cmp_eq] at t_126_41
              try simp only [Int32.lt_iff_toInt_lt, Int32.le_iff_toInt_le, ← Int32.toInt_inj, Int64.lt_iff_toInt_lt, Int64.le_iff_toInt_le, ← Int64.toInt_inj, Int32.toInt_toInt64, Int32.reduceToInt, Int64.reduceToInt] at t_126_41
              refine lv_aload_n hx hb dX8_written_129 rfl (lv_at hl 0 rfl) ?_
              refine va_get (D := D) (ci := 8) (v := .ref mL) (C := RX8) (T := TX8) (N := 31) hx hb hts iX8_written_X8 hown hK hP 1 rfl rfl 29 (by decide) (hts (.fieldLink RX8 40 "TapeCalculatorModel" "line" "[B") (List.mem_of_getElem? (i := 3) rfl)) (fun _ h9 => h9) rfl dX8_written_130 ?_
              refine lv_iload_n hx hb dX8_written_133 rfl (lv_at hl 2 rfl) ?_
              refine va_bald hx hb hK hP 2 2 rfl rfl (vp_in_iff.mpr (by omega)) dX8_written_134 ?_
              refine lv_goto (tgt := 140) hx hb dX8_written_135 (by decide) ?_
              refine kIret (u := (7, (upd (upd (upd (upd (upd (upd (upd (fun _ => 0) (0 : Int32).toNatClampNeg (vp_nar .byte (48 + ((n / 100) - (n / 100) / 10 * 10)).toInt8.toInt32)) (1 : Int32).toNatClampNeg (vp_nar .byte (48 + ((n / 10) - (n / 10) / 10 * 10)).toInt8.toInt32)) (2 : Int32).toNatClampNeg (vp_nar .byte (48 + ((n / 1) - (n / 1) / 10 * 10)).toInt8.toInt32)) (3 : Int32).toNatClampNeg (vp_nar .byte 32)) (4 : Int32).toNatClampNeg (vp_nar .byte 48)) (5 : Int32).toNatClampNeg (vp_nar .byte 43)) (6 : Int32).toNatClampNeg (vp_nar .byte 48)))) hx hb hr rfl hlocks hS dX8_written_140 ?_ (hP.sub [1, 0, 2] rfl) (hD.sub [1, 0, 2] (by decide) rfl)
              first
                | exact (kif_f (by omega)).symm
                | exact ((kif_t (by omega)).trans (kif_f (by omega))).symm
                | exact ((kif_t (by omega)).trans ((kif_t (by omega)).trans (congrFun hE2 _))).symm
          · exact absurd c_85_36 (by decide)
    · have t_13_2 := c_13_2
      try simp only [kb_eq0, kb_ne0, lg_cmp_lt, lg_cmp_le, lg_cmp_gt, lg_cmp_ge, lg_cmp_eq] at t_13_2
      try simp only [Int32.lt_iff_toInt_lt, Int32.le_iff_toInt_le, ← Int32.toInt_inj, Int64.lt_iff_toInt_lt, Int64.le_iff_toInt_le, ← Int64.toInt_inj, Int32.toInt_toInt64, Int32.reduceToInt, Int64.reduceToInt] at t_13_2
      refine lv_iconst (v := (-1)) hx hb dX8_written_16 (by decide) ?_
      refine kIret (u := (0, (fun _ => 0))) hx hb hr rfl hlocks hS dX8_written_17 ?_ (hP.sub [0, 1, 2] rfl) (hD.sub [0, 1, 2] (by decide) rfl)
      first
        | exact (kif_f (by omega)).symm
        | exact ((kif_t (by omega)).trans (kif_f (by omega))).symm
        | exact ((kif_t (by omega)).trans ((kif_t (by omega)).trans (congrFun hE2 _))).symm
