set_option maxRecDepth 100000 in
set_option maxHeartbeats 4000000 in
theorem r_isTape (l : Launch) (D : va_G) (cI cL cB cZ cT : ClassId) (sz : Nat) (m0 mH mI mJ mS mD mX mA mB mW mL : Nat) (tt : Int32) : kM (S := Unit) l yX8_isTape wsX8_isTape ({ frames := 1, cells := 0, slots := 0, locals := 25 }) D (kT cI cL cB cZ cT) [.ref m0, .int tt] [(m0, .inr (8, [.ref mH, .int 0, .long 0, .int 0, .long 0, .int 0, .int 0, .int 0, .int 0, .int 0, .int 0, .long 0, .int 0, .int 0, .ref mI, .ref mJ, .ref mS, .ref mD, .int 0, .int 0, .int 0, .long 0, .ref mX, .int 0, .int 0, .int 0, .ref mA, .ref mB, .ref mW, .ref mL, .int 0]))] sz eI (fun r _ => r = (kb (0 ≤ tt.toInt ∧ tt.toInt ≤ 3))) (fun _ => [(m0, .inr (8, [.ref mH, .int 0, .long 0, .int 0, .long 0, .int 0, .int 0, .int 0, .int 0, .int 0, .int 0, .long 0, .int 0, .int 0, .ref mI, .ref mJ, .ref mS, .ref mD, .int 0, .int 0, .int 0, .long 0, .ref mX, .int 0, .int 0, .int 0, .ref mA, .ref mB, .ref mW, .ref mL, .int 0]))]) 0 0 := by
  refine kStart (cc := cX8_isTape) (maxL := 2) (ret := (some .boolean)) (own := RX8) (by decide) rfl rfl (Nat.le_of_ble_eq_true rfl) ?_
  intro p e s m args below meth c A ls hx hb hr hml hown hts hlocks hnm hsz hA hG hP hD hS hl
  have hK := hG.1
  have hl : lv_has ls 2 [(0, .ref m0), (1, .int tt)] := hl
  refine lv_iload_n hx hb dX8_isTape_0 rfl (lv_at hl 1 rfl) ?_
  refine lv_i2l hx hb dX8_isTape_1 rfl ?_
  refine lv_lconst (v := 0) hx hb dX8_isTape_2 (by decide) ?_
  refine lv_ldc2 (v := 3) hx hb hown (hts (.constantLong RX8 101 (3)) (List.mem_of_getElem? (i := 1) rfl)) dX8_isTape_3 ?_
  refine kCallI (wr := [(m0, .inr (8, [.ref mH, .int 0, .long 0, .int 0, .long 0, .int 0, .int 0, .int 0, .int 0, .int 0, .int 0, .long 0, .int 0, .int 0, .ref mI, .ref mJ, .ref mS, .ref mD, .int 0, .int 0, .int 0, .long 0, .ref mX, .int 0, .int 0, .int 0, .ref mA, .ref mB, .ref mW, .ref mL, .int 0]))]) (va_runS (As := [.long tt.toInt64, .long 0, .long 3]) (rest := []) ⟨hx, hb, hml, hown, hts⟩ (r_in l D cI cL cB cZ cT _ (tt.toInt64) 0 3) (va_cwS 3 hts gX8_isTape_X8_in rfl rfl rfl (by decide +kernel) ⟨Nat.le_of_ble_eq_true rfl, Nat.le_of_ble_eq_true rfl⟩) (kPreS hG hP hD [] rfl (by decide)) rfl rfl hl.1 rfl (lv_room (Nat.le_of_ble_eq_true rfl)) dX8_isTape_6 ⟨Nat.le_of_ble_eq_true rfl, Nat.le_of_ble_eq_true rfl⟩) hA hP hD hS [] [0] rfl rfl (by decide) (by decide) (fun r_1 u_r_1 H locs wr_1 hP hD hS => ?_)
  have hP : va_P D vwCl [(m0, .inr (8, [.ref mH, .int 0, .long 0, .int 0, .long 0, .int 0, .int 0, .int 0, .int 0, .int 0, .int 0, .long 0, .int 0, .int 0, .ref mI, .ref mJ, .ref mS, .ref mD, .int 0, .int 0, .int 0, .long 0, .ref mX, .int 0, .int 0, .int 0, .ref mA, .ref mB, .ref mW, .ref mL, .int 0]))] H := hP
  have hD : va_D A [(m0, .inr (8, [.ref mH, .int 0, .long 0, .int 0, .long 0, .int 0, .int 0, .int 0, .int 0, .int 0, .int 0, .long 0, .int 0, .int 0, .ref mI, .ref mJ, .ref mS, .ref mD, .int 0, .int 0, .int 0, .long 0, .ref mX, .int 0, .int 0, .int 0, .ref mA, .ref mB, .ref mW, .ref mL, .int 0]))] := hD
  try dsimp only at wr_1
  subst wr_1
  refine kIret (u := ()) hx hb hr (kz_n (kb_z _)) hlocks hS dX8_isTape_9 ?_ (hP.sub [0] rfl) (hD.sub [0] (by decide) rfl)
  simp only [Int64.reduceToInt, Int32.toInt_toInt64]
set_option maxRecDepth 100000 in
theorem iX8_item_X8 : ∀ w ∈ wsX80, w ∈ wsX8_item := fun w h => (goodIn_r (big := wsX8_item) wsX80 [14, 15, 16, 17, 18, 19, 20, 21, 22, 23, 24, 25, 26, 27, 28, 29, 30, 31, 32, 33, 34, 35, 36, 37, 38, 39, 40, 41, 42, 43, 44] rfl (by decide +kernel) w h).1
set_option maxRecDepth 100000 in
set_option maxHeartbeats 4000000 in
theorem r_item (l : Launch) (D : va_G) (cI cL cB cZ cT : ClassId) (sz : Nat) (m0 mH mI mJ mS mD mX mA mB mW mL : Nat) (tt i : Int32) : kM (S := Unit) l yX8_item wsX8_item ({ frames := 2, cells := 0, slots := 0, locals := 46 }) D (kT cI cL cB cZ cT) [.ref m0, .int tt, .int i] [(m0, .inr (8, [.ref mH, .int 0, .long 0, .int 0, .long 0, .int 0, .int 0, .int 0, .int 0, .int 0, .int 0, .long 0, .int 0, .int 0, .ref mI, .ref mJ, .ref mS, .ref mD, .int 0, .int 0, .int 0, .long 0, .ref mX, .int 0, .int 0, .int 0, .ref mA, .ref mB, .ref mW, .ref mL, .int 0])), (mI, .inl (cL, 1200, .inr (.inl (fun _ => 0)))), (mJ, .inl (cI, 4, .inl (fun _ => 0)))] sz eL (fun r _ => r = (kif (0 ≤ tt.toInt ∧ tt.toInt ≤ 3) (-9) (-1))) (fun _ => [(m0, .inr (8, [.ref mH, .int 0, .long 0, .int 0, .long 0, .int 0, .int 0, .int 0, .int 0, .int 0, .int 0, .long 0, .int 0, .int 0, .ref mI, .ref mJ, .ref mS, .ref mD, .int 0, .int 0, .int 0, .long 0, .ref mX, .int 0, .int 0, .int 0, .ref mA, .ref mB, .ref mW, .ref mL, .int 0])), (mI, .inl (cL, 1200, .inr (.inl (fun _ => 0)))), (mJ, .inl (cI, 4, .inl (fun _ => 0)))]) 0 0 := by
  refine kStart (cc := cX8_item) (maxL := 3) (ret := (some .long)) (own := RX8) (by decide) rfl rfl (Nat.le_of_ble_eq_true rfl) ?_
  intro p e s m args below meth c A ls hx hb hr hml hown hts hlocks hnm hsz hA hG hP hD hS hl
  have hK := hG.1
  have hl : lv_has ls 3 [(0, .ref m0), (1, .int tt), (2, .int i)] := hl
  refine lv_aload_n hx hb dX8_item_0 rfl (lv_at hl 0 rfl) ?_
  refine lv_iload_n hx hb dX8_item_1 rfl (lv_at hl 1 rfl) ?_
  refine kCallI (wr := [(mI, .inl (cL, 1200, .inr (.inl (fun _ => 0)))), (mJ, .inl (cI, 4, .inl (fun _ => 0)))]) (va_runV (As := [.int tt]) (rest := []) ⟨hx, hb, hml, hown, hts⟩ (r_isTape l D cI cL cB cZ cT _ m0 mH mI mJ mS mD mX mA mB mW mL tt) (cwV 1 hts gX8_item_X8_isTape rfl rfl rfl (by decide +kernel) ⟨Nat.le_of_ble_eq_true rfl, Nat.le_of_ble_eq_true rfl⟩) (kPreV hG hP hD [0] rfl (by decide) 0 8 rfl rfl rfl) rfl rfl hl.1 rfl (lv_room (Nat.le_of_ble_eq_true rfl)) dX8_item_2 ⟨Nat.le_of_ble_eq_true rfl, Nat.le_of_ble_eq_true rfl⟩) hA hP hD hS [0] [1, 2] rfl rfl (by decide) (by decide) (fun r_1 u_r_1 H locs wr_1 hP hD hS => ?_)
  have hP : va_P D vwCl [(mI, .inl (cL, 1200, .inr (.inl (fun _ => 0)))), (mJ, .inl (cI, 4, .inl (fun _ => 0))), (m0, .inr (8, [.ref mH, .int 0, .long 0, .int 0, .long 0, .int 0, .int 0, .int 0, .int 0, .int 0, .int 0, .long 0, .int 0, .int 0, .ref mI, .ref mJ, .ref mS, .ref mD, .int 0, .int 0, .int 0, .long 0, .ref mX, .int 0, .int 0, .int 0, .ref mA, .ref mB, .ref mW, .ref mL, .int 0]))] H := hP
  have hD : va_D A [(mI, .inl (cL, 1200, .inr (.inl (fun _ => 0)))), (mJ, .inl (cI, 4, .inl (fun _ => 0))), (m0, .inr (8, [.ref mH, .int 0, .long 0, .int 0, .long 0, .int 0, .int 0, .int 0, .int 0, .int 0, .int 0, .long 0, .int 0, .int 0, .ref mI, .ref mJ, .ref mS, .ref mD, .int 0, .int 0, .int 0, .long 0, .ref mX, .int 0, .int 0, .int 0, .ref mA, .ref mB, .ref mW, .ref mL, .int 0]))] := hD
  try dsimp only at wr_1
  subst wr_1
  refine lv_if_ne (tgt := 14) hx hb dX8_item_5 (by decide) (fun c_5_1 => ?_) (fun c_5_1 => ?_)
  · have t_5_1 := c_5_1
    try simp only [kb_eq0, kb_ne0, lg_cmp_lt, lg_cmp_le, lg_cmp_gt, lg_cmp_ge, lg_cmp_eq] at t_5_1
    try simp only [Int32.lt_iff_toInt_lt, Int32.le_iff_toInt_le, ← Int32.toInt_inj, Int64.lt_iff_toInt_lt, Int64.le_iff_toInt_le, ← Int64.toInt_inj, Int32.toInt_toInt64, Int32.reduceToInt, Int64.reduceToInt] at t_5_1
    refine lv_iload_n hx hb dX8_item_14 rfl (lv_at hl 2 rfl) ?_
    refine lv_i2l hx hb dX8_item_15 rfl ?_
    refine lv_lconst (v := 0) hx hb dX8_item_16 (by decide) ?_
    refine lv_aload_n hx hb dX8_item_17 rfl (lv_at hl 0 rfl) ?_
    refine va_get (D := D) (ci := 8) (v := .ref mJ) (C := RX8) (T := TX8) (N := 31) hx hb hts iX8_item_X8 hown hK hP 2 rfl rfl 15 (by decide) (hts (.fieldLink RX8 17 "TapeCalculatorModel" "items" "[I") (List.mem_of_getElem? (i := 2) rfl)) (fun _ h9 => h9) rfl dX8_item_18 ?_
    refine lv_iload_n hx hb dX8_item_21 rfl (lv_at hl 1 rfl) ?_
    refine va_iald hx hb hK hP 1 0 rfl rfl (vp_in_iff.mpr (by omega)) dX8_item_22 ?_
    refine lv_iconst (v := 1) hx hb dX8_item_23 (by decide) ?_
    refine lv_isub hx hb dX8_item_24 ?_
    refine lv_topi (fun x_3 ex_3 => ?_)
    obtain rfl : x_3 = (-1) := ex_3.trans (by decide)
    refine lv_i2l hx hb dX8_item_25 rfl ?_
    refine lv_topl (fun x_4 ex_4 => ?_)
    obtain rfl : x_4 = (-1) := ex_4.trans (by decide)
    refine kCallI (wr := [(mI, .inl (cL, 1200, .inr (.inl (fun _ => 0)))), (mJ, .inl (cI, 4, .inl (fun _ => 0))), (m0, .inr (8, [.ref mH, .int 0, .long 0, .int 0, .long 0, .int 0, .int 0, .int 0, .int 0, .int 0, .int 0, .long 0, .int 0, .int 0, .ref mI, .ref mJ, .ref mS, .ref mD, .int 0, .int 0, .int 0, .long 0, .ref mX, .int 0, .int 0, .int 0, .ref mA, .ref mB, .ref mW, .ref mL, .int 0]))]) (va_runS (As := [.long i.toInt64, .long 0, .long (-1)]) (rest := []) ⟨hx, hb, hml, hown, hts⟩ (r_in l D cI cL cB cZ cT _ (i.toInt64) 0 (-1)) (va_cwS 3 hts gX8_item_X8_in rfl rfl rfl (by decide +kernel) ⟨Nat.le_of_ble_eq_true rfl, Nat.le_of_ble_eq_true rfl⟩) (kPreS hG hP hD [] rfl (by decide)) rfl rfl hl.1 rfl (lv_room (Nat.le_of_ble_eq_true rfl)) dX8_item_26 ⟨Nat.le_of_ble_eq_true rfl, Nat.le_of_ble_eq_true rfl⟩) hA hP hD hS [] [0, 1, 2] rfl rfl (by decide) (by decide) (fun r_5 u_r_5 H locs wr_5 hP hD hS => ?_)
    have hP : va_P D vwCl [(mI, .inl (cL, 1200, .inr (.inl (fun _ => 0)))), (mJ, .inl (cI, 4, .inl (fun _ => 0))), (m0, .inr (8, [.ref mH, .int 0, .long 0, .int 0, .long 0, .int 0, .int 0, .int 0, .int 0, .int 0, .int 0, .long 0, .int 0, .int 0, .ref mI, .ref mJ, .ref mS, .ref mD, .int 0, .int 0, .int 0, .long 0, .ref mX, .int 0, .int 0, .int 0, .ref mA, .ref mB, .ref mW, .ref mL, .int 0]))] H := hP
    have hD : va_D A [(mI, .inl (cL, 1200, .inr (.inl (fun _ => 0)))), (mJ, .inl (cI, 4, .inl (fun _ => 0))), (m0, .inr (8, [.ref mH, .int 0, .long 0, .int 0, .long 0, .int 0, .int 0, .int 0, .int 0, .int 0, .int 0, .long 0, .int 0, .int 0, .ref mI, .ref mJ, .ref mS, .ref mD, .int 0, .int 0, .int 0, .long 0, .ref mX, .int 0, .int 0, .int 0, .ref mA, .ref mB, .ref mW, .ref mL, .int 0]))] := hD
    try dsimp only at wr_5
    subst wr_5
    refine lv_if_eq (tgt := 47) hx hb dX8_item_29 (by decide) (fun c_29_5 => ?_) (fun c_29_5 => ?_)
    · have t_29_5 := c_29_5
      try simp only [kb_eq0, kb_ne0, lg_cmp_lt, lg_cmp_le, lg_cmp_gt, lg_cmp_ge, lg_cmp_eq] at t_29_5
      try simp only [Int32.lt_iff_toInt_lt, Int32.le_iff_toInt_le, ← Int32.toInt_inj, Int64.lt_iff_toInt_lt, Int64.le_iff_toInt_le, ← Int64.toInt_inj, Int32.toInt_toInt64, Int32.reduceToInt, Int64.reduceToInt] at t_29_5
      refine lv_ldc2 (v := (-9)) hx hb hown (hts (.constantLong RX8 107 (-9)) (List.mem_of_getElem? (i := 4) rfl)) dX8_item_47 ?_
      refine kLret (u := ()) hx hb hr hlocks hS dX8_item_50 ?_ (hP.sub [2, 0, 1] rfl) (hD.sub [2, 0, 1] (by decide) rfl)
      first
        | exact (kif_t (by omega)).symm
        | exact (kif_f (by omega)).symm
    · have t_29_5 := c_29_5
      try simp only [kb_eq0, kb_ne0, lg_cmp_lt, lg_cmp_le, lg_cmp_gt, lg_cmp_ge, lg_cmp_eq] at t_29_5
      try simp only [Int32.lt_iff_toInt_lt, Int32.le_iff_toInt_le, ← Int32.toInt_inj, Int64.lt_iff_toInt_lt, Int64.le_iff_toInt_le, ← Int64.toInt_inj, Int32.toInt_toInt64, Int32.reduceToInt, Int64.reduceToInt] at t_29_5
      omega
  · have t_5_1 := c_5_1
    try simp only [kb_eq0, kb_ne0, lg_cmp_lt, lg_cmp_le, lg_cmp_gt, lg_cmp_ge, lg_cmp_eq] at t_5_1
    try simp only [Int32.lt_iff_toInt_lt, Int32.le_iff_toInt_le, ← Int32.toInt_inj, Int64.lt_iff_toInt_lt, Int64.le_iff_toInt_le, ← Int64.toInt_inj, Int32.toInt_toInt64, Int32.reduceToInt, Int64.reduceToInt] at t_5_1
    refine lv_ldc2 (v := (-1)) hx hb hown (hts (.constantLong RX8 59 (-1)) (List.mem_of_getElem? (i := 1) rfl)) dX8_item_8 ?_
    refine lv_goto (tgt := 50) hx hb dX8_item_11 (by decide) ?_
    refine kLret (u := ()) hx hb hr hlocks hS dX8_item_50 ?_ (hP.sub [2, 0, 1] rfl) (hD.sub [2, 0, 1] (by decide) rfl)
    first
      | exact (kif_t (by omega)).symm
      | exact (kif_f (by omega)).symm
set_option maxRecDepth 100000 in
theorem iX8_lay_X8 : ∀ w ∈ wsX80, w ∈ wsX8_lay := fun w h => (goodIn_r (big := wsX8_lay) wsX80 [15, 16, 17, 18, 19, 20, 21, 22, 23, 24, 25, 26, 27, 28, 29, 30, 31, 32, 33, 34, 35, 36, 37, 38, 39, 40, 41, 42, 43, 44, 45] rfl (by decide +kernel) w h).1
set_option maxRecDepth 100000 in
set_option maxHeartbeats 4000000 in
theorem r_lay (l : Launch) (D : va_G) (cI cL cB cZ cT : ClassId) (sz : Nat) (m0 mH mI mJ mS mD mX mA mB mW mL : Nat) (tt : Int32) (v : Int64) : kM (S := ((Nat → Int64) × (Nat → Int32))) l yX8_lay wsX8_lay ({ frames := 2, cells := 0, slots := 0, locals := 46 }) D (kT cI cL cB cZ cT) [.ref m0, .int tt, .long v] [(m0, .inr (8, [.ref mH, .int 0, .long 0, .int 0, .long 0, .int 0, .int 0, .int 0, .int 0, .int 0, .int 0, .long 0, .int 0, .int 0, .ref mI, .ref mJ, .ref mS, .ref mD, .int 0, .int 0, .int 0, .long 0, .ref mX, .int 0, .int 0, .int 0, .ref mA, .ref mB, .ref mW, .ref mL, .int 0])), (mI, .inl (cL, 1200, .inr (.inl (fun _ => 0)))), (mJ, .inl (cI, 4, .inl (fun _ => 0)))] sz eI (fun r _ => r = (kif ((0 ≤ tt.toInt ∧ tt.toInt ≤ 3) ∧ ((0 ≤ v.toInt ∧ v.toInt ≤ 68719476735) ∨ v.toInt = -2 ∨ v.toInt = -3)) 1 (-1))) (fun u => [(m0, .inr (8, [.ref mH, .int 0, .long 0, .int 0, .long 0, .int 0, .int 0, .int 0, .int 0, .int 0, .int 0, .long 0, .int 0, .int 0, .ref mI, .ref mJ, .ref mS, .ref mD, .int 0, .int 0, .int 0, .long 0, .ref mX, .int 0, .int 0, .int 0, .ref mA, .ref mB, .ref mW, .ref mL, .int 0])), (mI, .inl (cL, 1200, .inr (.inl u.1))), (mJ, .inl (cI, 4, .inl u.2))]) 0 0 := by
  refine kStart (cc := cX8_lay) (maxL := 4) (ret := (some .int)) (own := RX8) (by decide) rfl rfl (Nat.le_of_ble_eq_true rfl) ?_
  intro p e s m args below meth c A ls hx hb hr hml hown hts hlocks hnm hsz hA hG hP hD hS hl
  have hK := hG.1
  have hl : lv_has ls 4 [(0, .ref m0), (1, .int tt), (2, .long v)] := hl
  rcases ksw_0_3 tt with hsw | rfl | rfl | rfl | rfl
  · refine lv_aload_n hx hb dX8_lay_0 rfl (lv_at hl 0 rfl) ?_
    refine lv_iload_n hx hb dX8_lay_1 rfl (lv_at hl 1 rfl) ?_
    refine kCallI (wr := [(mI, .inl (cL, 1200, .inr (.inl (fun _ => 0)))), (mJ, .inl (cI, 4, .inl (fun _ => 0)))]) (va_runV (As := [.int tt]) (rest := []) ⟨hx, hb, hml, hown, hts⟩ (r_isTape l D cI cL cB cZ cT _ m0 mH mI mJ mS mD mX mA mB mW mL tt) (cwV 1 hts gX8_lay_X8_isTape rfl rfl rfl (by decide +kernel) ⟨Nat.le_of_ble_eq_true rfl, Nat.le_of_ble_eq_true rfl⟩) (kPreV hG hP hD [0] rfl (by decide) 0 8 rfl rfl rfl) rfl rfl hl.1 rfl (lv_room (Nat.le_of_ble_eq_true rfl)) dX8_lay_2 ⟨Nat.le_of_ble_eq_true rfl, Nat.le_of_ble_eq_true rfl⟩) hA hP hD hS [0] [1, 2] rfl rfl (by decide) (by decide) (fun r_1 u_r_1 H locs wr_1 hP hD hS => ?_)
    have hP : va_P D vwCl [(mI, .inl (cL, 1200, .inr (.inl (fun _ => 0)))), (mJ, .inl (cI, 4, .inl (fun _ => 0))), (m0, .inr (8, [.ref mH, .int 0, .long 0, .int 0, .long 0, .int 0, .int 0, .int 0, .int 0, .int 0, .int 0, .long 0, .int 0, .int 0, .ref mI, .ref mJ, .ref mS, .ref mD, .int 0, .int 0, .int 0, .long 0, .ref mX, .int 0, .int 0, .int 0, .ref mA, .ref mB, .ref mW, .ref mL, .int 0]))] H := hP
    have hD : va_D A [(mI, .inl (cL, 1200, .inr (.inl (fun _ => 0)))), (mJ, .inl (cI, 4, .inl (fun _ => 0))), (m0, .inr (8, [.ref mH, .int 0, .long 0, .int 0, .long 0, .int 0, .int 0, .int 0, .int 0, .int 0, .int 0, .long 0, .int 0, .int 0, .ref mI, .ref mJ, .ref mS, .ref mD, .int 0, .int 0, .int 0, .long 0, .ref mX, .int 0, .int 0, .int 0, .ref mA, .ref mB, .ref mW, .ref mL, .int 0]))] := hD
    try dsimp only at wr_1
    subst wr_1
    refine lv_if_eq (tgt := 35) hx hb dX8_lay_5 (by decide) (fun c_5_1 => ?_) (fun c_5_1 => ?_)
    · have t_5_1 := c_5_1
      try simp only [kb_eq0, kb_ne0, lg_cmp_lt, lg_cmp_le, lg_cmp_gt, lg_cmp_ge, lg_cmp_eq] at t_5_1
      try simp only [Int32.lt_iff_toInt_lt, Int32.le_iff_toInt_le, ← Int32.toInt_inj, Int64.lt_iff_toInt_lt, Int64.le_iff_toInt_le, ← Int64.toInt_inj, Int32.toInt_toInt64, Int32.reduceToInt, Int64.reduceToInt] at t_5_1
      refine lv_iconst (v := (-1)) hx hb dX8_lay_35 (by decide) ?_
      refine kIret (u := ((fun _ => 0), (fun _ => 0))) hx hb hr rfl hlocks hS dX8_lay_36 ?_ (hP.sub [2, 0, 1] rfl) (hD.sub [2, 0, 1] (by decide) rfl)
      first
        | exact (kif_t ⟨by decide, by omega⟩).symm
        | exact (kif_t (by omega)).symm
        | exact (kif_f (by omega)).symm
        | exact (kif_f (fun h => absurd h.2 (by omega))).symm
    · have t_5_1 := c_5_1
      try simp only [kb_eq0, kb_ne0, lg_cmp_lt, lg_cmp_le, lg_cmp_gt, lg_cmp_ge, lg_cmp_eq] at t_5_1
      try simp only [Int32.lt_iff_toInt_lt, Int32.le_iff_toInt_le, ← Int32.toInt_inj, Int64.lt_iff_toInt_lt, Int64.le_iff_toInt_le, ← Int64.toInt_inj, Int32.toInt_toInt64, Int32.reduceToInt, Int64.reduceToInt] at t_5_1
      omega
  · refine lv_aload_n hx hb dX8_lay_0 rfl (lv_at hl 0 rfl) ?_
    refine lv_iload_n hx hb dX8_lay_1 rfl (lv_at hl 1 rfl) ?_
    refine kCallI (wr := [(mI, .inl (cL, 1200, .inr (.inl (fun _ => 0)))), (mJ, .inl (cI, 4, .inl (fun _ => 0)))]) (va_runV (As := [.int 0]) (rest := []) ⟨hx, hb, hml, hown, hts⟩ (r_isTape l D cI cL cB cZ cT _ m0 mH mI mJ mS mD mX mA mB mW mL 0) (cwV 1 hts gX8_lay_X8_isTape rfl rfl rfl (by decide +kernel) ⟨Nat.le_of_ble_eq_true rfl, Nat.le_of_ble_eq_true rfl⟩) (kPreV hG hP hD [0] rfl (by decide) 0 8 rfl rfl rfl) rfl rfl hl.1 rfl (lv_room (Nat.le_of_ble_eq_true rfl)) dX8_lay_2 ⟨Nat.le_of_ble_eq_true rfl, Nat.le_of_ble_eq_true rfl⟩) hA hP hD hS [0] [1, 2] rfl rfl (by decide) (by decide) (fun r_3 u_r_3 H locs wr_3 hP hD hS => ?_)
    have hP : va_P D vwCl [(mI, .inl (cL, 1200, .inr (.inl (fun _ => 0)))), (mJ, .inl (cI, 4, .inl (fun _ => 0))), (m0, .inr (8, [.ref mH, .int 0, .long 0, .int 0, .long 0, .int 0, .int 0, .int 0, .int 0, .int 0, .int 0, .long 0, .int 0, .int 0, .ref mI, .ref mJ, .ref mS, .ref mD, .int 0, .int 0, .int 0, .long 0, .ref mX, .int 0, .int 0, .int 0, .ref mA, .ref mB, .ref mW, .ref mL, .int 0]))] H := hP
    have hD : va_D A [(mI, .inl (cL, 1200, .inr (.inl (fun _ => 0)))), (mJ, .inl (cI, 4, .inl (fun _ => 0))), (m0, .inr (8, [.ref mH, .int 0, .long 0, .int 0, .long 0, .int 0, .int 0, .int 0, .int 0, .int 0, .int 0, .long 0, .int 0, .int 0, .ref mI, .ref mJ, .ref mS, .ref mD, .int 0, .int 0, .int 0, .long 0, .ref mX, .int 0, .int 0, .int 0, .ref mA, .ref mB, .ref mW, .ref mL, .int 0]))] := hD
    try dsimp only at wr_3
    subst wr_3
    refine lv_if_eq (tgt := 35) hx hb dX8_lay_5 (by decide) (fun c_5_3 => ?_) (fun c_5_3 => ?_)
    · have t_5_3 := c_5_3
      try simp only [kb_eq0, kb_ne0, lg_cmp_lt, lg_cmp_le, lg_cmp_gt, lg_cmp_ge, lg_cmp_eq] at t_5_3
      try simp only [Int32.lt_iff_toInt_lt, Int32.le_iff_toInt_le, ← Int32.toInt_inj, Int64.lt_iff_toInt_lt, Int64.le_iff_toInt_le, ← Int64.toInt_inj, Int32.toInt_toInt64, Int32.reduceToInt, Int64.reduceToInt] at t_5_3
      omega
    · have t_5_3 := c_5_3
      try simp only [kb_eq0, kb_ne0, lg_cmp_lt, lg_cmp_le, lg_cmp_gt, lg_cmp_ge, lg_cmp_eq] at t_5_3
      try simp only [Int32.lt_iff_toInt_lt, Int32.le_iff_toInt_le, ← Int32.toInt_inj, Int64.lt_iff_toInt_lt, Int64.le_iff_toInt_le, ← Int64.toInt_inj, Int32.toInt_toInt64, Int32.reduceToInt, Int64.reduceToInt] at t_5_3
      refine lv_lload_n hx hb dX8_lay_8 rfl (lv_at hl 2 rfl) ?_
      refine lv_lconst (v := 0) hx hb dX8_lay_9 (by decide) ?_
      refine lv_ldc2 (v := 68719476735) hx hb hown (hts (.constantLong RX8 109 (68719476735)) (List.mem_of_getElem? (i := 1) rfl)) dX8_lay_10 ?_
      refine kCallI (wr := [(mI, .inl (cL, 1200, .inr (.inl (fun _ => 0)))), (mJ, .inl (cI, 4, .inl (fun _ => 0))), (m0, .inr (8, [.ref mH, .int 0, .long 0, .int 0, .long 0, .int 0, .int 0, .int 0, .int 0, .int 0, .int 0, .long 0, .int 0, .int 0, .ref mI, .ref mJ, .ref mS, .ref mD, .int 0, .int 0, .int 0, .long 0, .ref mX, .int 0, .int 0, .int 0, .ref mA, .ref mB, .ref mW, .ref mL, .int 0]))]) (va_runS (As := [.long v, .long 0, .long 68719476735]) (rest := []) ⟨hx, hb, hml, hown, hts⟩ (r_in l D cI cL cB cZ cT _ v 0 68719476735) (va_cwS 3 hts gX8_lay_X8_in rfl rfl rfl (by decide +kernel) ⟨Nat.le_of_ble_eq_true rfl, Nat.le_of_ble_eq_true rfl⟩) (kPreS hG hP hD [] rfl (by decide)) rfl rfl hl.1 rfl (lv_room (Nat.le_of_ble_eq_true rfl)) dX8_lay_13 ⟨Nat.le_of_ble_eq_true rfl, Nat.le_of_ble_eq_true rfl⟩) hA hP hD hS [] [0, 1, 2] rfl rfl (by decide) (by decide) (fun r_5 u_r_5 H locs wr_5 hP hD hS => ?_)
      have hP : va_P D vwCl [(mI, .inl (cL, 1200, .inr (.inl (fun _ => 0)))), (mJ, .inl (cI, 4, .inl (fun _ => 0))), (m0, .inr (8, [.ref mH, .int 0, .long 0, .int 0, .long 0, .int 0, .int 0, .int 0, .int 0, .int 0, .int 0, .long 0, .int 0, .int 0, .ref mI, .ref mJ, .ref mS, .ref mD, .int 0, .int 0, .int 0, .long 0, .ref mX, .int 0, .int 0, .int 0, .ref mA, .ref mB, .ref mW, .ref mL, .int 0]))] H := hP
      have hD : va_D A [(mI, .inl (cL, 1200, .inr (.inl (fun _ => 0)))), (mJ, .inl (cI, 4, .inl (fun _ => 0))), (m0, .inr (8, [.ref mH, .int 0, .long 0, .int 0, .long 0, .int 0, .int 0, .int 0, .int 0, .int 0, .int 0, .long 0, .int 0, .int 0, .ref mI, .ref mJ, .ref mS, .ref mD, .int 0, .int 0, .int 0, .long 0, .ref mX, .int 0, .int 0, .int 0, .ref mA, .ref mB, .ref mW, .ref mL, .int 0]))] := hD
      try dsimp only at wr_5
      subst wr_5
      refine lv_if_ne (tgt := 37) hx hb dX8_lay_16 (by decide) (fun c_16_5 => ?_) (fun c_16_5 => ?_)
      · have t_16_5 := c_16_5
        try simp only [kb_eq0, kb_ne0, lg_cmp_lt, lg_cmp_le, lg_cmp_gt, lg_cmp_ge, lg_cmp_eq] at t_16_5
        try simp only [Int32.lt_iff_toInt_lt, Int32.le_iff_toInt_le, ← Int32.toInt_inj, Int64.lt_iff_toInt_lt, Int64.le_iff_toInt_le, ← Int64.toInt_inj, Int32.toInt_toInt64, Int32.reduceToInt, Int64.reduceToInt] at t_16_5
        refine lv_aload_n hx hb dX8_lay_37 rfl (lv_at hl 0 rfl) ?_
        refine va_get (D := D) (ci := 8) (v := .ref mJ) (C := RX8) (T := TX8) (N := 31) hx hb hts iX8_lay_X8 hown hK hP 2 rfl rfl 15 (by decide) (hts (.fieldLink RX8 17 "TapeCalculatorModel" "items" "[I") (List.mem_of_getElem? (i := 4) rfl)) (fun _ h9 => h9) rfl dX8_lay_38 ?_
        refine lv_iload_n hx hb dX8_lay_41 rfl (lv_at hl 1 rfl) ?_
        refine va_iald hx hb hK hP 1 0 rfl rfl (vp_in_iff.mpr (by decide)) dX8_lay_42 ?_
        refine lv_sipush (v := 300) hx hb dX8_lay_43 (by decide) ?_
        refine lv_icmp_ne (tgt := 52) hx hb dX8_lay_46 (by decide) (fun c_46_6 => ?_) (fun c_46_6 => ?_)
        · have t_46_6 := c_46_6
          try simp only [kb_eq0, kb_ne0, lg_cmp_lt, lg_cmp_le, lg_cmp_gt, lg_cmp_ge, lg_cmp_eq] at t_46_6
          try simp only [Int32.lt_iff_toInt_lt, Int32.le_iff_toInt_le, ← Int32.toInt_inj, Int64.lt_iff_toInt_lt, Int64.le_iff_toInt_le, ← Int64.toInt_inj, Int32.toInt_toInt64, Int32.reduceToInt, Int64.reduceToInt] at t_46_6
          refine lv_aload_n hx hb dX8_lay_52 rfl (lv_at hl 0 rfl) ?_
          refine va_get (D := D) (ci := 8) (v := .ref mI) (C := RX8) (T := TX8) (N := 31) hx hb hts iX8_lay_X8 hown hK hP 2 rfl rfl 14 (by decide) (hts (.fieldLink RX8 13 "TapeCalculatorModel" "item" "[J") (List.mem_of_getElem? (i := 5) rfl)) (fun _ h9 => h9) rfl dX8_lay_53 ?_
          refine lv_sipush (v := 300) hx hb dX8_lay_56 (by decide) ?_
          refine lv_iload_n hx hb dX8_lay_59 rfl (lv_at hl 1 rfl) ?_
          refine lv_imul hx hb dX8_lay_60 ?_
          refine lv_topi (fun x_8 ex_8 => ?_)
          obtain rfl : x_8 = 0 := ex_8.trans (by decide)
          refine lv_aload_n hx hb dX8_lay_61 rfl (lv_at hl 0 rfl) ?_
          refine va_get (D := D) (ci := 8) (v := .ref mJ) (C := RX8) (T := TX8) (N := 31) hx hb hts iX8_lay_X8 hown hK hP 2 rfl rfl 15 (by decide) (hts (.fieldLink RX8 17 "TapeCalculatorModel" "items" "[I") (List.mem_of_getElem? (i := 4) rfl)) (fun _ h9 => h9) rfl dX8_lay_62 ?_
          refine lv_iload_n hx hb dX8_lay_65 rfl (lv_at hl 1 rfl) ?_
          refine va_iald hx hb hK hP 1 0 rfl rfl (vp_in_iff.mpr (by decide)) dX8_lay_66 ?_
          refine lv_iadd hx hb dX8_lay_67 ?_
          refine lv_topi (fun x_9 ex_9 => ?_)
          obtain rfl : x_9 = 0 := ex_9.trans (by decide)
          refine lv_lload_n hx hb dX8_lay_68 rfl (lv_at hl 2 rfl) ?_
          refine va_last hx hb hK hP hD hS 0 1 rfl rfl (vp_in_iff.mpr (by decide)) dX8_lay_69 (fun H locs hP hD hS => ?_)
          have hP : va_P D vwCl [(mI, .inl (cL, 1200, .inr (.inl (vp_updL (fun _ => 0) (0 : Int32).toNatClampNeg v)))), (mJ, .inl (cI, 4, .inl (fun _ => 0))), (m0, .inr (8, [.ref mH, .int 0, .long 0, .int 0, .long 0, .int 0, .int 0, .int 0, .int 0, .int 0, .int 0, .long 0, .int 0, .int 0, .ref mI, .ref mJ, .ref mS, .ref mD, .int 0, .int 0, .int 0, .long 0, .ref mX, .int 0, .int 0, .int 0, .ref mA, .ref mB, .ref mW, .ref mL, .int 0]))] H := hP
          have hD : va_D A [(mI, .inl (cL, 1200, .inr (.inl (vp_updL (fun _ => 0) (0 : Int32).toNatClampNeg v)))), (mJ, .inl (cI, 4, .inl (fun _ => 0))), (m0, .inr (8, [.ref mH, .int 0, .long 0, .int 0, .long 0, .int 0, .int 0, .int 0, .int 0, .int 0, .int 0, .long 0, .int 0, .int 0, .ref mI, .ref mJ, .ref mS, .ref mD, .int 0, .int 0, .int 0, .long 0, .ref mX, .int 0, .int 0, .int 0, .ref mA, .ref mB, .ref mW, .ref mL, .int 0]))] := hD
          refine lv_aload_n hx hb dX8_lay_70 rfl (lv_at hl 0 rfl) ?_
          refine va_get (D := D) (ci := 8) (v := .ref mJ) (C := RX8) (T := TX8) (N := 31) hx hb hts iX8_lay_X8 hown hK hP 2 rfl rfl 15 (by decide) (hts (.fieldLink RX8 17 "TapeCalculatorModel" "items" "[I") (List.mem_of_getElem? (i := 4) rfl)) (fun _ h9 => h9) rfl dX8_lay_71 ?_
          refine lv_iload_n hx hb dX8_lay_74 rfl (lv_at hl 1 rfl) ?_
          refine lv_dup2_11 hx hb dX8_lay_75 rfl rfl ?_
          refine va_iald hx hb hK hP 1 0 rfl rfl (vp_in_iff.mpr (by decide)) dX8_lay_76 ?_
          refine lv_iconst (v := 1) hx hb dX8_lay_77 (by decide) ?_
          refine lv_iadd hx hb dX8_lay_78 ?_
          refine lv_topi (fun x_10 ex_10 => ?_)
          obtain rfl : x_10 = 1 := ex_10.trans (by decide)
          refine va_iast hx hb hK hP hD hS 1 0 rfl rfl (vp_in_iff.mpr (by decide)) dX8_lay_79 (fun H locs hP hD hS => ?_)
          have hP : va_P D vwCl [(mI, .inl (cL, 1200, .inr (.inl (vp_updL (fun _ => 0) (0 : Int32).toNatClampNeg v)))), (mJ, .inl (cI, 4, .inl (upd (fun _ => 0) (0 : Int32).toNatClampNeg 1))), (m0, .inr (8, [.ref mH, .int 0, .long 0, .int 0, .long 0, .int 0, .int 0, .int 0, .int 0, .int 0, .int 0, .long 0, .int 0, .int 0, .ref mI, .ref mJ, .ref mS, .ref mD, .int 0, .int 0, .int 0, .long 0, .ref mX, .int 0, .int 0, .int 0, .ref mA, .ref mB, .ref mW, .ref mL, .int 0]))] H := hP
          have hD : va_D A [(mI, .inl (cL, 1200, .inr (.inl (vp_updL (fun _ => 0) (0 : Int32).toNatClampNeg v)))), (mJ, .inl (cI, 4, .inl (upd (fun _ => 0) (0 : Int32).toNatClampNeg 1))), (m0, .inr (8, [.ref mH, .int 0, .long 0, .int 0, .long 0, .int 0, .int 0, .int 0, .int 0, .int 0, .int 0, .long 0, .int 0, .int 0, .ref mI, .ref mJ, .ref mS, .ref mD, .int 0, .int 0, .int 0, .long 0, .ref mX, .int 0, .int 0, .int 0, .ref mA, .ref mB, .ref mW, .ref mL, .int 0]))] := hD
          refine lv_aload_n hx hb dX8_lay_80 rfl (lv_at hl 0 rfl) ?_
          refine va_get (D := D) (ci := 8) (v := .ref mJ) (C := RX8) (T := TX8) (N := 31) hx hb hts iX8_lay_X8 hown hK hP 2 rfl rfl 15 (by decide) (hts (.fieldLink RX8 17 "TapeCalculatorModel" "items" "[I") (List.mem_of_getElem? (i := 4) rfl)) (fun _ h9 => h9) rfl dX8_lay_81 ?_
          refine lv_iload_n hx hb dX8_lay_84 rfl (lv_at hl 1 rfl) ?_
          refine va_iald hx hb hK hP 1 0 rfl rfl (vp_in_iff.mpr (by decide)) dX8_lay_85 ?_
          refine kIret (u := ((vp_updL (fun _ => 0) (0 : Int32).toNatClampNeg v), (upd (fun _ => 0) (0 : Int32).toNatClampNeg 1))) hx hb hr rfl hlocks hS dX8_lay_86 ?_ (hP.sub [2, 0, 1] rfl) (hD.sub [2, 0, 1] (by decide) rfl)
          first
            | exact (kif_t ⟨by decide, by omega⟩).symm
            | exact (kif_t (by omega)).symm
            | exact (kif_f (by omega)).symm
            | exact (kif_f (fun h => absurd h.2 (by omega))).symm
        · exact absurd c_46_6 (by decide)
      · have t_16_5 := c_16_5
        try simp only [kb_eq0, kb_ne0, lg_cmp_lt, lg_cmp_le, lg_cmp_gt, lg_cmp_ge, lg_cmp_eq] at t_16_5
        try simp only [Int32.lt_iff_toInt_lt, Int32.le_iff_toInt_le, ← Int32.toInt_inj, Int64.lt_iff_toInt_lt, Int64.le_iff_toInt_le, ← Int64.toInt_inj, Int32.toInt_toInt64, Int32.reduceToInt, Int64.reduceToInt] at t_16_5
        refine lv_lload_n hx hb dX8_lay_19 rfl (lv_at hl 2 rfl) ?_
        refine lv_ldc2 (v := (-2)) hx hb hown (hts (.constantLong RX8 111 (-2)) (List.mem_of_getElem? (i := 2) rfl)) dX8_lay_20 ?_
        refine W.lcmp hx hb dX8_lay_23 ?_
        refine lv_if_eq (tgt := 37) hx hb dX8_lay_24 (by decide) (fun c_24_10 => ?_) (fun c_24_10 => ?_)
        · have t_24_10 := c_24_10
          try simp only [kb_eq0, kb_ne0, lg_cmp_lt, lg_cmp_le, lg_cmp_gt, lg_cmp_ge, lg_cmp_eq] at t_24_10
          try simp only [Int32.lt_iff_toInt_lt, Int32.le_iff_toInt_le, ← Int32.toInt_inj, Int64.lt_iff_toInt_lt, Int64.le_iff_toInt_le, ← Int64.toInt_inj, Int32.toInt_toInt64, Int32.reduceToInt, Int64.reduceToInt] at t_24_10
          refine lv_aload_n hx hb dX8_lay_37 rfl (lv_at hl 0 rfl) ?_
          refine va_get (D := D) (ci := 8) (v := .ref mJ) (C := RX8) (T := TX8) (N := 31) hx hb hts iX8_lay_X8 hown hK hP 2 rfl rfl 15 (by decide) (hts (.fieldLink RX8 17 "TapeCalculatorModel" "items" "[I") (List.mem_of_getElem? (i := 4) rfl)) (fun _ h9 => h9) rfl dX8_lay_38 ?_
          refine lv_iload_n hx hb dX8_lay_41 rfl (lv_at hl 1 rfl) ?_
          refine va_iald hx hb hK hP 1 0 rfl rfl (vp_in_iff.mpr (by decide)) dX8_lay_42 ?_
          refine lv_sipush (v := 300) hx hb dX8_lay_43 (by decide) ?_
          refine lv_icmp_ne (tgt := 52) hx hb dX8_lay_46 (by decide) (fun c_46_11 => ?_) (fun c_46_11 => ?_)
          · have t_46_11 := c_46_11
            try simp only [kb_eq0, kb_ne0, lg_cmp_lt, lg_cmp_le, lg_cmp_gt, lg_cmp_ge, lg_cmp_eq] at t_46_11
            try simp only [Int32.lt_iff_toInt_lt, Int32.le_iff_toInt_le, ← Int32.toInt_inj, Int64.lt_iff_toInt_lt, Int64.le_iff_toInt_le, ← Int64.toInt_inj, Int32.toInt_toInt64, Int32.reduceToInt, Int64.reduceToInt] at t_46_11
            refine lv_aload_n hx hb dX8_lay_52 rfl (lv_at hl 0 rfl) ?_
            refine va_get (D := D) (ci := 8) (v := .ref mI) (C := RX8) (T := TX8) (N := 31) hx hb hts iX8_lay_X8 hown hK hP 2 rfl rfl 14 (by decide) (hts (.fieldLink RX8 13 "TapeCalculatorModel" "item" "[J") (List.mem_of_getElem? (i := 5) rfl)) (fun _ h9 => h9) rfl dX8_lay_53 ?_
            refine lv_sipush (v := 300) hx hb dX8_lay_56 (by decide) ?_
            refine lv_iload_n hx hb dX8_lay_59 rfl (lv_at hl 1 rfl) ?_
            refine lv_imul hx hb dX8_lay_60 ?_
            refine lv_topi (fun x_13 ex_13 => ?_)
            obtain rfl : x_13 = 0 := ex_13.trans (by decide)
            refine lv_aload_n hx hb dX8_lay_61 rfl (lv_at hl 0 rfl) ?_
            refine va_get (D := D) (ci := 8) (v := .ref mJ) (C := RX8) (T := TX8) (N := 31) hx hb hts iX8_lay_X8 hown hK hP 2 rfl rfl 15 (by decide) (hts (.fieldLink RX8 17 "TapeCalculatorModel" "items" "[I") (List.mem_of_getElem? (i := 4) rfl)) (fun _ h9 => h9) rfl dX8_lay_62 ?_
            refine lv_iload_n hx hb dX8_lay_65 rfl (lv_at hl 1 rfl) ?_
            refine va_iald hx hb hK hP 1 0 rfl rfl (vp_in_iff.mpr (by decide)) dX8_lay_66 ?_
            refine lv_iadd hx hb dX8_lay_67 ?_
            refine lv_topi (fun x_14 ex_14 => ?_)
            obtain rfl : x_14 = 0 := ex_14.trans (by decide)
            refine lv_lload_n hx hb dX8_lay_68 rfl (lv_at hl 2 rfl) ?_
            refine va_last hx hb hK hP hD hS 0 1 rfl rfl (vp_in_iff.mpr (by decide)) dX8_lay_69 (fun H locs hP hD hS => ?_)
            have hP : va_P D vwCl [(mI, .inl (cL, 1200, .inr (.inl (vp_updL (fun _ => 0) (0 : Int32).toNatClampNeg v)))), (mJ, .inl (cI, 4, .inl (fun _ => 0))), (m0, .inr (8, [.ref mH, .int 0, .long 0, .int 0, .long 0, .int 0, .int 0, .int 0, .int 0, .int 0, .int 0, .long 0, .int 0, .int 0, .ref mI, .ref mJ, .ref mS, .ref mD, .int 0, .int 0, .int 0, .long 0, .ref mX, .int 0, .int 0, .int 0, .ref mA, .ref mB, .ref mW, .ref mL, .int 0]))] H := hP
            have hD : va_D A [(mI, .inl (cL, 1200, .inr (.inl (vp_updL (fun _ => 0) (0 : Int32).toNatClampNeg v)))), (mJ, .inl (cI, 4, .inl (fun _ => 0))), (m0, .inr (8, [.ref mH, .int 0, .long 0, .int 0, .long 0, .int 0, .int 0, .int 0, .int 0, .int 0, .int 0, .long 0, .int 0, .int 0, .ref mI, .ref mJ, .ref mS, .ref mD, .int 0, .int 0, .int 0, .long 0, .ref mX, .int 0, .int 0, .int 0, .ref mA, .ref mB, .ref mW, .ref mL, .int 0]))] := hD
            refine lv_aload_n hx hb dX8_lay_70 rfl (lv_at hl 0 rfl) ?_
            refine va_get (D := D) (ci := 8) (v := .ref mJ) (C := RX8) (T := TX8) (N := 31) hx hb hts iX8_lay_X8 hown hK hP 2 rfl rfl 15 (by decide) (hts (.fieldLink RX8 17 "TapeCalculatorModel" "items" "[I") (List.mem_of_getElem? (i := 4) rfl)) (fun _ h9 => h9) rfl dX8_lay_71 ?_
            refine lv_iload_n hx hb dX8_lay_74 rfl (lv_at hl 1 rfl) ?_
            refine lv_dup2_11 hx hb dX8_lay_75 rfl rfl ?_
            refine va_iald hx hb hK hP 1 0 rfl rfl (vp_in_iff.mpr (by decide)) dX8_lay_76 ?_
            refine lv_iconst (v := 1) hx hb dX8_lay_77 (by decide) ?_
            refine lv_iadd hx hb dX8_lay_78 ?_
            refine lv_topi (fun x_15 ex_15 => ?_)
            obtain rfl : x_15 = 1 := ex_15.trans (by decide)
            refine va_iast hx hb hK hP hD hS 1 0 rfl rfl (vp_in_iff.mpr (by decide)) dX8_lay_79 (fun H locs hP hD hS => ?_)
            have hP : va_P D vwCl [(mI, .inl (cL, 1200, .inr (.inl (vp_updL (fun _ => 0) (0 : Int32).toNatClampNeg v)))), (mJ, .inl (cI, 4, .inl (upd (fun _ => 0) (0 : Int32).toNatClampNeg 1))), (m0, .inr (8, [.ref mH, .int 0, .long 0, .int 0, .long 0, .int 0, .int 0, .int 0, .int 0, .int 0, .int 0, .long 0, .int 0, .int 0, .ref mI, .ref mJ, .ref mS, .ref mD, .int 0, .int 0, .int 0, .long 0, .ref mX, .int 0, .int 0, .int 0, .ref mA, .ref mB, .ref mW, .ref mL, .int 0]))] H := hP
            have hD : va_D A [(mI, .inl (cL, 1200, .inr (.inl (vp_updL (fun _ => 0) (0 : Int32).toNatClampNeg v)))), (mJ, .inl (cI, 4, .inl (upd (fun _ => 0) (0 : Int32).toNatClampNeg 1))), (m0, .inr (8, [.ref mH, .int 0, .long 0, .int 0, .long 0, .int 0, .int 0, .int 0, .int 0, .int 0, .int 0, .long 0, .int 0, .int 0, .ref mI, .ref mJ, .ref mS, .ref mD, .int 0, .int 0, .int 0, .long 0, .ref mX, .int 0, .int 0, .int 0, .ref mA, .ref mB, .ref mW, .ref mL, .int 0]))] := hD
            refine lv_aload_n hx hb dX8_lay_80 rfl (lv_at hl 0 rfl) ?_
            refine va_get (D := D) (ci := 8) (v := .ref mJ) (C := RX8) (T := TX8) (N := 31) hx hb hts iX8_lay_X8 hown hK hP 2 rfl rfl 15 (by decide) (hts (.fieldLink RX8 17 "TapeCalculatorModel" "items" "[I") (List.mem_of_getElem? (i := 4) rfl)) (fun _ h9 => h9) rfl dX8_lay_81 ?_
            refine lv_iload_n hx hb dX8_lay_84 rfl (lv_at hl 1 rfl) ?_
            refine va_iald hx hb hK hP 1 0 rfl rfl (vp_in_iff.mpr (by decide)) dX8_lay_85 ?_
            refine kIret (u := ((vp_updL (fun _ => 0) (0 : Int32).toNatClampNeg v), (upd (fun _ => 0) (0 : Int32).toNatClampNeg 1))) hx hb hr rfl hlocks hS dX8_lay_86 ?_ (hP.sub [2, 0, 1] rfl) (hD.sub [2, 0, 1] (by decide) rfl)
            first
              | exact (kif_t ⟨by decide, by omega⟩).symm
              | exact (kif_t (by omega)).symm
              | exact (kif_f (by omega)).symm
              | exact (kif_f (fun h => absurd h.2 (by omega))).symm
          · exact absurd c_46_11 (by decide)
        · have t_24_10 := c_24_10
          try simp only [kb_eq0, kb_ne0, lg_cmp_lt, lg_cmp_le, lg_cmp_gt, lg_cmp_ge, lg_cmp_eq] at t_24_10
          try simp only [Int32.lt_iff_toInt_lt, Int32.le_iff_toInt_le, ← Int32.toInt_inj, Int64.lt_iff_toInt_lt, Int64.le_iff_toInt_le, ← Int64.toInt_inj, Int32.toInt_toInt64, Int32.reduceToInt, Int64.reduceToInt] at t_24_10
          refine lv_lload_n hx hb dX8_lay_27 rfl (lv_at hl 2 rfl) ?_
          refine lv_ldc2 (v := (-3)) hx hb hown (hts (.constantLong RX8 113 (-3)) (List.mem_of_getElem? (i := 3) rfl)) dX8_lay_28 ?_
          refine W.lcmp hx hb dX8_lay_31 ?_
          refine lv_if_eq (tgt := 37) hx hb dX8_lay_32 (by decide) (fun c_32_15 => ?_) (fun c_32_15 => ?_)
          · have t_32_15 := c_32_15
            try simp only [kb_eq0, kb_ne0, lg_cmp_lt, lg_cmp_le, lg_cmp_gt, lg_cmp_ge, lg_cmp_eq] at t_32_15
            try simp only [Int32.lt_iff_toInt_lt, Int32.le_iff_toInt_le, ← Int32.toInt_inj, Int64.lt_iff_toInt_lt, Int64.le_iff_toInt_le, ← Int64.toInt_inj, Int32.toInt_toInt64, Int32.reduceToInt, Int64.reduceToInt] at t_32_15
            refine lv_aload_n hx hb dX8_lay_37 rfl (lv_at hl 0 rfl) ?_
            refine va_get (D := D) (ci := 8) (v := .ref mJ) (C := RX8) (T := TX8) (N := 31) hx hb hts iX8_lay_X8 hown hK hP 2 rfl rfl 15 (by decide) (hts (.fieldLink RX8 17 "TapeCalculatorModel" "items" "[I") (List.mem_of_getElem? (i := 4) rfl)) (fun _ h9 => h9) rfl dX8_lay_38 ?_
            refine lv_iload_n hx hb dX8_lay_41 rfl (lv_at hl 1 rfl) ?_
            refine va_iald hx hb hK hP 1 0 rfl rfl (vp_in_iff.mpr (by decide)) dX8_lay_42 ?_
            refine lv_sipush (v := 300) hx hb dX8_lay_43 (by decide) ?_
            refine lv_icmp_ne (tgt := 52) hx hb dX8_lay_46 (by decide) (fun c_46_16 => ?_) (fun c_46_16 => ?_)
            · have t_46_16 := c_46_16
              try simp only [kb_eq0, kb_ne0, lg_cmp_lt, lg_cmp_le, lg_cmp_gt, lg_cmp_ge, lg_cmp_eq] at t_46_16
              try simp only [Int32.lt_iff_toInt_lt, Int32.le_iff_toInt_le, ← Int32.toInt_inj, Int64.lt_iff_toInt_lt, Int64.le_iff_toInt_le, ← Int64.toInt_inj, Int32.toInt_toInt64, Int32.reduceToInt, Int64.reduceToInt] at t_46_16
              refine lv_aload_n hx hb dX8_lay_52 rfl (lv_at hl 0 rfl) ?_
              refine va_get (D := D) (ci := 8) (v := .ref mI) (C := RX8) (T := TX8) (N := 31) hx hb hts iX8_lay_X8 hown hK hP 2 rfl rfl 14 (by decide) (hts (.fieldLink RX8 13 "TapeCalculatorModel" "item" "[J") (List.mem_of_getElem? (i := 5) rfl)) (fun _ h9 => h9) rfl dX8_lay_53 ?_
              refine lv_sipush (v := 300) hx hb dX8_lay_56 (by decide) ?_
              refine lv_iload_n hx hb dX8_lay_59 rfl (lv_at hl 1 rfl) ?_
              refine lv_imul hx hb dX8_lay_60 ?_
              refine lv_topi (fun x_18 ex_18 => ?_)
              obtain rfl : x_18 = 0 := ex_18.trans (by decide)
              refine lv_aload_n hx hb dX8_lay_61 rfl (lv_at hl 0 rfl) ?_
              refine va_get (D := D) (ci := 8) (v := .ref mJ) (C := RX8) (T := TX8) (N := 31) hx hb hts iX8_lay_X8 hown hK hP 2 rfl rfl 15 (by decide) (hts (.fieldLink RX8 17 "TapeCalculatorModel" "items" "[I") (List.mem_of_getElem? (i := 4) rfl)) (fun _ h9 => h9) rfl dX8_lay_62 ?_
              refine lv_iload_n hx hb dX8_lay_65 rfl (lv_at hl 1 rfl) ?_
              refine va_iald hx hb hK hP 1 0 rfl rfl (vp_in_iff.mpr (by decide)) dX8_lay_66 ?_
              refine lv_iadd hx hb dX8_lay_67 ?_
              refine lv_topi (fun x_19 ex_19 => ?_)
              obtain rfl : x_19 = 0 := ex_19.trans (by decide)
              refine lv_lload_n hx hb dX8_lay_68 rfl (lv_at hl 2 rfl) ?_
              refine va_last hx hb hK hP hD hS 0 1 rfl rfl (vp_in_iff.mpr (by decide)) dX8_lay_69 (fun H locs hP hD hS => ?_)
              have hP : va_P D vwCl [(mI, .inl (cL, 1200, .inr (.inl (vp_updL (fun _ => 0) (0 : Int32).toNatClampNeg v)))), (mJ, .inl (cI, 4, .inl (fun _ => 0))), (m0, .inr (8, [.ref mH, .int 0, .long 0, .int 0, .long 0, .int 0, .int 0, .int 0, .int 0, .int 0, .int 0, .long 0, .int 0, .int 0, .ref mI, .ref mJ, .ref mS, .ref mD, .int 0, .int 0, .int 0, .long 0, .ref mX, .int 0, .int 0, .int 0, .ref mA, .ref mB, .ref mW, .ref mL, .int 0]))] H := hP
              have hD : va_D A [(mI, .inl (cL, 1200, .inr (.inl (vp_updL (fun _ => 0) (0 : Int32).toNatClampNeg v)))), (mJ, .inl (cI, 4, .inl (fun _ => 0))), (m0, .inr (8, [.ref mH, .int 0, .long 0, .int 0, .long 0, .int 0, .int 0, .int 0, .int 0, .int 0, .int 0, .long 0, .int 0, .int 0, .ref mI, .ref mJ, .ref mS, .ref mD, .int 0, .int 0, .int 0, .long 0, .ref mX, .int 0, .int 0, .int 0, .ref mA, .ref mB, .ref mW, .ref mL, .int 0]))] := hD
              refine lv_aload_n hx hb dX8_lay_70 rfl (lv_at hl 0 rfl) ?_
              refine va_get (D := D) (ci := 8) (v := .ref mJ) (C := RX8) (T := TX8) (N := 31) hx hb hts iX8_lay_X8 hown hK hP 2 rfl rfl 15 (by decide) (hts (.fieldLink RX8 17 "TapeCalculatorModel" "items" "[I") (List.mem_of_getElem? (i := 4) rfl)) (fun _ h9 => h9) rfl dX8_lay_71 ?_
              refine lv_iload_n hx hb dX8_lay_74 rfl (lv_at hl 1 rfl) ?_
              refine lv_dup2_11 hx hb dX8_lay_75 rfl rfl ?_
              refine va_iald hx hb hK hP 1 0 rfl rfl (vp_in_iff.mpr (by decide)) dX8_lay_76 ?_
              refine lv_iconst (v := 1) hx hb dX8_lay_77 (by decide) ?_
              refine lv_iadd hx hb dX8_lay_78 ?_
              refine lv_topi (fun x_20 ex_20 => ?_)
              obtain rfl : x_20 = 1 := ex_20.trans (by decide)
              refine va_iast hx hb hK hP hD hS 1 0 rfl rfl (vp_in_iff.mpr (by decide)) dX8_lay_79 (fun H locs hP hD hS => ?_)
              have hP : va_P D vwCl [(mI, .inl (cL, 1200, .inr (.inl (vp_updL (fun _ => 0) (0 : Int32).toNatClampNeg v)))), (mJ, .inl (cI, 4, .inl (upd (fun _ => 0) (0 : Int32).toNatClampNeg 1))), (m0, .inr (8, [.ref mH, .int 0, .long 0, .int 0, .long 0, .int 0, .int 0, .int 0, .int 0, .int 0, .int 0, .long 0, .int 0, .int 0, .ref mI, .ref mJ, .ref mS, .ref mD, .int 0, .int 0, .int 0, .long 0, .ref mX, .int 0, .int 0, .int 0, .ref mA, .ref mB, .ref mW, .ref mL, .int 0]))] H := hP
              have hD : va_D A [(mI, .inl (cL, 1200, .inr (.inl (vp_updL (fun _ => 0) (0 : Int32).toNatClampNeg v)))), (mJ, .inl (cI, 4, .inl (upd (fun _ => 0) (0 : Int32).toNatClampNeg 1))), (m0, .inr (8, [.ref mH, .int 0, .long 0, .int 0, .long 0, .int 0, .int 0, .int 0, .int 0, .int 0, .int 0, .long 0, .int 0, .int 0, .ref mI, .ref mJ, .ref mS, .ref mD, .int 0, .int 0, .int 0, .long 0, .ref mX, .int 0, .int 0, .int 0, .ref mA, .ref mB, .ref mW, .ref mL, .int 0]))] := hD
              refine lv_aload_n hx hb dX8_lay_80 rfl (lv_at hl 0 rfl) ?_
              refine va_get (D := D) (ci := 8) (v := .ref mJ) (C := RX8) (T := TX8) (N := 31) hx hb hts iX8_lay_X8 hown hK hP 2 rfl rfl 15 (by decide) (hts (.fieldLink RX8 17 "TapeCalculatorModel" "items" "[I") (List.mem_of_getElem? (i := 4) rfl)) (fun _ h9 => h9) rfl dX8_lay_81 ?_
              refine lv_iload_n hx hb dX8_lay_84 rfl (lv_at hl 1 rfl) ?_
              refine va_iald hx hb hK hP 1 0 rfl rfl (vp_in_iff.mpr (by decide)) dX8_lay_85 ?_
              refine kIret (u := ((vp_updL (fun _ => 0) (0 : Int32).toNatClampNeg v), (upd (fun _ => 0) (0 : Int32).toNatClampNeg 1))) hx hb hr rfl hlocks hS dX8_lay_86 ?_ (hP.sub [2, 0, 1] rfl) (hD.sub [2, 0, 1] (by decide) rfl)
              first
                | exact (kif_t ⟨by decide, by omega⟩).symm
                | exact (kif_t (by omega)).symm
                | exact (kif_f (by omega)).symm
                | exact (kif_f (fun h => absurd h.2 (by omega))).symm
            · exact absurd c_46_16 (by decide)
          · have t_32_15 := c_32_15
            try simp only [kb_eq0, kb_ne0, lg_cmp_lt, lg_cmp_le, lg_cmp_gt, lg_cmp_ge, lg_cmp_eq] at t_32_15
            try simp only [Int32.lt_iff_toInt_lt, Int32.le_iff_toInt_le, ← Int32.toInt_inj, Int64.lt_iff_toInt_lt, Int64.le_iff_toInt_le, ← Int64.toInt_inj, Int32.toInt_toInt64, Int32.reduceToInt, Int64.reduceToInt] at t_32_15
            refine lv_iconst (v := (-1)) hx hb dX8_lay_35 (by decide) ?_
            refine kIret (u := ((fun _ => 0), (fun _ => 0))) hx hb hr rfl hlocks hS dX8_lay_36 ?_ (hP.sub [2, 0, 1] rfl) (hD.sub [2, 0, 1] (by decide) rfl)
            first
              | exact (kif_t ⟨by decide, by omega⟩).symm
              | exact (kif_t (by omega)).symm
              | exact (kif_f (by omega)).symm
              | exact (kif_f (fun h => absurd h.2 (by omega))).symm
  · refine lv_aload_n hx hb dX8_lay_0 rfl (lv_at hl 0 rfl) ?_
    refine lv_iload_n hx hb dX8_lay_1 rfl (lv_at hl 1 rfl) ?_
    refine kCallI (wr := [(mI, .inl (cL, 1200, .inr (.inl (fun _ => 0)))), (mJ, .inl (cI, 4, .inl (fun _ => 0)))]) (va_runV (As := [.int 1]) (rest := []) ⟨hx, hb, hml, hown, hts⟩ (r_isTape l D cI cL cB cZ cT _ m0 mH mI mJ mS mD mX mA mB mW mL 1) (cwV 1 hts gX8_lay_X8_isTape rfl rfl rfl (by decide +kernel) ⟨Nat.le_of_ble_eq_true rfl, Nat.le_of_ble_eq_true rfl⟩) (kPreV hG hP hD [0] rfl (by decide) 0 8 rfl rfl rfl) rfl rfl hl.1 rfl (lv_room (Nat.le_of_ble_eq_true rfl)) dX8_lay_2 ⟨Nat.le_of_ble_eq_true rfl, Nat.le_of_ble_eq_true rfl⟩) hA hP hD hS [0] [1, 2] rfl rfl (by decide) (by decide) (fun r_21 u_r_21 H locs wr_21 hP hD hS => ?_)
    have hP : va_P D vwCl [(mI, .inl (cL, 1200, .inr (.inl (fun _ => 0)))), (mJ, .inl (cI, 4, .inl (fun _ => 0))), (m0, .inr (8, [.ref mH, .int 0, .long 0, .int 0, .long 0, .int 0, .int 0, .int 0, .int 0, .int 0, .int 0, .long 0, .int 0, .int 0, .ref mI, .ref mJ, .ref mS, .ref mD, .int 0, .int 0, .int 0, .long 0, .ref mX, .int 0, .int 0, .int 0, .ref mA, .ref mB, .ref mW, .ref mL, .int 0]))] H := hP
    have hD : va_D A [(mI, .inl (cL, 1200, .inr (.inl (fun _ => 0)))), (mJ, .inl (cI, 4, .inl (fun _ => 0))), (m0, .inr (8, [.ref mH, .int 0, .long 0, .int 0, .long 0, .int 0, .int 0, .int 0, .int 0, .int 0, .int 0, .long 0, .int 0, .int 0, .ref mI, .ref mJ, .ref mS, .ref mD, .int 0, .int 0, .int 0, .long 0, .ref mX, .int 0, .int 0, .int 0, .ref mA, .ref mB, .ref mW, .ref mL, .int 0]))] := hD
    try dsimp only at wr_21
    subst wr_21
    refine lv_if_eq (tgt := 35) hx hb dX8_lay_5 (by decide) (fun c_5_21 => ?_) (fun c_5_21 => ?_)
    · have t_5_21 := c_5_21
      try simp only [kb_eq0, kb_ne0, lg_cmp_lt, lg_cmp_le, lg_cmp_gt, lg_cmp_ge, lg_cmp_eq] at t_5_21
      try simp only [Int32.lt_iff_toInt_lt, Int32.le_iff_toInt_le, ← Int32.toInt_inj, Int64.lt_iff_toInt_lt, Int64.le_iff_toInt_le, ← Int64.toInt_inj, Int32.toInt_toInt64, Int32.reduceToInt, Int64.reduceToInt] at t_5_21
      omega
    · have t_5_21 := c_5_21
      try simp only [kb_eq0, kb_ne0, lg_cmp_lt, lg_cmp_le, lg_cmp_gt, lg_cmp_ge, lg_cmp_eq] at t_5_21
      try simp only [Int32.lt_iff_toInt_lt, Int32.le_iff_toInt_le, ← Int32.toInt_inj, Int64.lt_iff_toInt_lt, Int64.le_iff_toInt_le, ← Int64.toInt_inj, Int32.toInt_toInt64, Int32.reduceToInt, Int64.reduceToInt] at t_5_21
      refine lv_lload_n hx hb dX8_lay_8 rfl (lv_at hl 2 rfl) ?_
      refine lv_lconst (v := 0) hx hb dX8_lay_9 (by decide) ?_
      refine lv_ldc2 (v := 68719476735) hx hb hown (hts (.constantLong RX8 109 (68719476735)) (List.mem_of_getElem? (i := 1) rfl)) dX8_lay_10 ?_
      refine kCallI (wr := [(mI, .inl (cL, 1200, .inr (.inl (fun _ => 0)))), (mJ, .inl (cI, 4, .inl (fun _ => 0))), (m0, .inr (8, [.ref mH, .int 0, .long 0, .int 0, .long 0, .int 0, .int 0, .int 0, .int 0, .int 0, .int 0, .long 0, .int 0, .int 0, .ref mI, .ref mJ, .ref mS, .ref mD, .int 0, .int 0, .int 0, .long 0, .ref mX, .int 0, .int 0, .int 0, .ref mA, .ref mB, .ref mW, .ref mL, .int 0]))]) (va_runS (As := [.long v, .long 0, .long 68719476735]) (rest := []) ⟨hx, hb, hml, hown, hts⟩ (r_in l D cI cL cB cZ cT _ v 0 68719476735) (va_cwS 3 hts gX8_lay_X8_in rfl rfl rfl (by decide +kernel) ⟨Nat.le_of_ble_eq_true rfl, Nat.le_of_ble_eq_true rfl⟩) (kPreS hG hP hD [] rfl (by decide)) rfl rfl hl.1 rfl (lv_room (Nat.le_of_ble_eq_true rfl)) dX8_lay_13 ⟨Nat.le_of_ble_eq_true rfl, Nat.le_of_ble_eq_true rfl⟩) hA hP hD hS [] [0, 1, 2] rfl rfl (by decide) (by decide) (fun r_23 u_r_23 H locs wr_23 hP hD hS => ?_)
      have hP : va_P D vwCl [(mI, .inl (cL, 1200, .inr (.inl (fun _ => 0)))), (mJ, .inl (cI, 4, .inl (fun _ => 0))), (m0, .inr (8, [.ref mH, .int 0, .long 0, .int 0, .long 0, .int 0, .int 0, .int 0, .int 0, .int 0, .int 0, .long 0, .int 0, .int 0, .ref mI, .ref mJ, .ref mS, .ref mD, .int 0, .int 0, .int 0, .long 0, .ref mX, .int 0, .int 0, .int 0, .ref mA, .ref mB, .ref mW, .ref mL, .int 0]))] H := hP
      have hD : va_D A [(mI, .inl (cL, 1200, .inr (.inl (fun _ => 0)))), (mJ, .inl (cI, 4, .inl (fun _ => 0))), (m0, .inr (8, [.ref mH, .int 0, .long 0, .int 0, .long 0, .int 0, .int 0, .int 0, .int 0, .int 0, .int 0, .long 0, .int 0, .int 0, .ref mI, .ref mJ, .ref mS, .ref mD, .int 0, .int 0, .int 0, .long 0, .ref mX, .int 0, .int 0, .int 0, .ref mA, .ref mB, .ref mW, .ref mL, .int 0]))] := hD
      try dsimp only at wr_23
      subst wr_23
      refine lv_if_ne (tgt := 37) hx hb dX8_lay_16 (by decide) (fun c_16_23 => ?_) (fun c_16_23 => ?_)
      · have t_16_23 := c_16_23
        try simp only [kb_eq0, kb_ne0, lg_cmp_lt, lg_cmp_le, lg_cmp_gt, lg_cmp_ge, lg_cmp_eq] at t_16_23
        try simp only [Int32.lt_iff_toInt_lt, Int32.le_iff_toInt_le, ← Int32.toInt_inj, Int64.lt_iff_toInt_lt, Int64.le_iff_toInt_le, ← Int64.toInt_inj, Int32.toInt_toInt64, Int32.reduceToInt, Int64.reduceToInt] at t_16_23
        refine lv_aload_n hx hb dX8_lay_37 rfl (lv_at hl 0 rfl) ?_
        refine va_get (D := D) (ci := 8) (v := .ref mJ) (C := RX8) (T := TX8) (N := 31) hx hb hts iX8_lay_X8 hown hK hP 2 rfl rfl 15 (by decide) (hts (.fieldLink RX8 17 "TapeCalculatorModel" "items" "[I") (List.mem_of_getElem? (i := 4) rfl)) (fun _ h9 => h9) rfl dX8_lay_38 ?_
        refine lv_iload_n hx hb dX8_lay_41 rfl (lv_at hl 1 rfl) ?_
        refine va_iald hx hb hK hP 1 0 rfl rfl (vp_in_iff.mpr (by decide)) dX8_lay_42 ?_
        refine lv_sipush (v := 300) hx hb dX8_lay_43 (by decide) ?_
        refine lv_icmp_ne (tgt := 52) hx hb dX8_lay_46 (by decide) (fun c_46_24 => ?_) (fun c_46_24 => ?_)
        · have t_46_24 := c_46_24
          try simp only [kb_eq0, kb_ne0, lg_cmp_lt, lg_cmp_le, lg_cmp_gt, lg_cmp_ge, lg_cmp_eq] at t_46_24
          try simp only [Int32.lt_iff_toInt_lt, Int32.le_iff_toInt_le, ← Int32.toInt_inj, Int64.lt_iff_toInt_lt, Int64.le_iff_toInt_le, ← Int64.toInt_inj, Int32.toInt_toInt64, Int32.reduceToInt, Int64.reduceToInt] at t_46_24
          refine lv_aload_n hx hb dX8_lay_52 rfl (lv_at hl 0 rfl) ?_
          refine va_get (D := D) (ci := 8) (v := .ref mI) (C := RX8) (T := TX8) (N := 31) hx hb hts iX8_lay_X8 hown hK hP 2 rfl rfl 14 (by decide) (hts (.fieldLink RX8 13 "TapeCalculatorModel" "item" "[J") (List.mem_of_getElem? (i := 5) rfl)) (fun _ h9 => h9) rfl dX8_lay_53 ?_
          refine lv_sipush (v := 300) hx hb dX8_lay_56 (by decide) ?_
          refine lv_iload_n hx hb dX8_lay_59 rfl (lv_at hl 1 rfl) ?_
          refine lv_imul hx hb dX8_lay_60 ?_
          refine lv_topi (fun x_26 ex_26 => ?_)
          obtain rfl : x_26 = 300 := ex_26.trans (by decide)
          refine lv_aload_n hx hb dX8_lay_61 rfl (lv_at hl 0 rfl) ?_
          refine va_get (D := D) (ci := 8) (v := .ref mJ) (C := RX8) (T := TX8) (N := 31) hx hb hts iX8_lay_X8 hown hK hP 2 rfl rfl 15 (by decide) (hts (.fieldLink RX8 17 "TapeCalculatorModel" "items" "[I") (List.mem_of_getElem? (i := 4) rfl)) (fun _ h9 => h9) rfl dX8_lay_62 ?_
          refine lv_iload_n hx hb dX8_lay_65 rfl (lv_at hl 1 rfl) ?_
          refine va_iald hx hb hK hP 1 0 rfl rfl (vp_in_iff.mpr (by decide)) dX8_lay_66 ?_
          refine lv_iadd hx hb dX8_lay_67 ?_
          refine lv_topi (fun x_27 ex_27 => ?_)
          obtain rfl : x_27 = 300 := ex_27.trans (by decide)
          refine lv_lload_n hx hb dX8_lay_68 rfl (lv_at hl 2 rfl) ?_
          refine va_last hx hb hK hP hD hS 0 1 rfl rfl (vp_in_iff.mpr (by decide)) dX8_lay_69 (fun H locs hP hD hS => ?_)
          have hP : va_P D vwCl [(mI, .inl (cL, 1200, .inr (.inl (vp_updL (fun _ => 0) (300 : Int32).toNatClampNeg v)))), (mJ, .inl (cI, 4, .inl (fun _ => 0))), (m0, .inr (8, [.ref mH, .int 0, .long 0, .int 0, .long 0, .int 0, .int 0, .int 0, .int 0, .int 0, .int 0, .long 0, .int 0, .int 0, .ref mI, .ref mJ, .ref mS, .ref mD, .int 0, .int 0, .int 0, .long 0, .ref mX, .int 0, .int 0, .int 0, .ref mA, .ref mB, .ref mW, .ref mL, .int 0]))] H := hP
          have hD : va_D A [(mI, .inl (cL, 1200, .inr (.inl (vp_updL (fun _ => 0) (300 : Int32).toNatClampNeg v)))), (mJ, .inl (cI, 4, .inl (fun _ => 0))), (m0, .inr (8, [.ref mH, .int 0, .long 0, .int 0, .long 0, .int 0, .int 0, .int 0, .int 0, .int 0, .int 0, .long 0, .int 0, .int 0, .ref mI, .ref mJ, .ref mS, .ref mD, .int 0, .int 0, .int 0, .long 0, .ref mX, .int 0, .int 0, .int 0, .ref mA, .ref mB, .ref mW, .ref mL, .int 0]))] := hD
          refine lv_aload_n hx hb dX8_lay_70 rfl (lv_at hl 0 rfl) ?_
          refine va_get (D := D) (ci := 8) (v := .ref mJ) (C := RX8) (T := TX8) (N := 31) hx hb hts iX8_lay_X8 hown hK hP 2 rfl rfl 15 (by decide) (hts (.fieldLink RX8 17 "TapeCalculatorModel" "items" "[I") (List.mem_of_getElem? (i := 4) rfl)) (fun _ h9 => h9) rfl dX8_lay_71 ?_
          refine lv_iload_n hx hb dX8_lay_74 rfl (lv_at hl 1 rfl) ?_
          refine lv_dup2_11 hx hb dX8_lay_75 rfl rfl ?_
          refine va_iald hx hb hK hP 1 0 rfl rfl (vp_in_iff.mpr (by decide)) dX8_lay_76 ?_
          refine lv_iconst (v := 1) hx hb dX8_lay_77 (by decide) ?_
          refine lv_iadd hx hb dX8_lay_78 ?_
          refine lv_topi (fun x_28 ex_28 => ?_)
          obtain rfl : x_28 = 1 := ex_28.trans (by decide)
          refine va_iast hx hb hK hP hD hS 1 0 rfl rfl (vp_in_iff.mpr (by decide)) dX8_lay_79 (fun H locs hP hD hS => ?_)
          have hP : va_P D vwCl [(mI, .inl (cL, 1200, .inr (.inl (vp_updL (fun _ => 0) (300 : Int32).toNatClampNeg v)))), (mJ, .inl (cI, 4, .inl (upd (fun _ => 0) (1 : Int32).toNatClampNeg 1))), (m0, .inr (8, [.ref mH, .int 0, .long 0, .int 0, .long 0, .int 0, .int 0, .int 0, .int 0, .int 0, .int 0, .long 0, .int 0, .int 0, .ref mI, .ref mJ, .ref mS, .ref mD, .int 0, .int 0, .int 0, .long 0, .ref mX, .int 0, .int 0, .int 0, .ref mA, .ref mB, .ref mW, .ref mL, .int 0]))] H := hP
          have hD : va_D A [(mI, .inl (cL, 1200, .inr (.inl (vp_updL (fun _ => 0) (300 : Int32).toNatClampNeg v)))), (mJ, .inl (cI, 4, .inl (upd (fun _ => 0) (1 : Int32).toNatClampNeg 1))), (m0, .inr (8, [.ref mH, .int 0, .long 0, .int 0, .long 0, .int 0, .int 0, .int 0, .int 0, .int 0, .int 0, .long 0, .int 0, .int 0, .ref mI, .ref mJ, .ref mS, .ref mD, .int 0, .int 0, .int 0, .long 0, .ref mX, .int 0, .int 0, .int 0, .ref mA, .ref mB, .ref mW, .ref mL, .int 0]))] := hD
          refine lv_aload_n hx hb dX8_lay_80 rfl (lv_at hl 0 rfl) ?_
          refine va_get (D := D) (ci := 8) (v := .ref mJ) (C := RX8) (T := TX8) (N := 31) hx hb hts iX8_lay_X8 hown hK hP 2 rfl rfl 15 (by decide) (hts (.fieldLink RX8 17 "TapeCalculatorModel" "items" "[I") (List.mem_of_getElem? (i := 4) rfl)) (fun _ h9 => h9) rfl dX8_lay_81 ?_
          refine lv_iload_n hx hb dX8_lay_84 rfl (lv_at hl 1 rfl) ?_
          refine va_iald hx hb hK hP 1 0 rfl rfl (vp_in_iff.mpr (by decide)) dX8_lay_85 ?_
          refine kIret (u := ((vp_updL (fun _ => 0) (300 : Int32).toNatClampNeg v), (upd (fun _ => 0) (1 : Int32).toNatClampNeg 1))) hx hb hr rfl hlocks hS dX8_lay_86 ?_ (hP.sub [2, 0, 1] rfl) (hD.sub [2, 0, 1] (by decide) rfl)
          first
            | exact (kif_t ⟨by decide, by omega⟩).symm
            | exact (kif_t (by omega)).symm
            | exact (kif_f (by omega)).symm
            | exact (kif_f (fun h => absurd h.2 (by omega))).symm
        · exact absurd c_46_24 (by decide)
      · have t_16_23 := c_16_23
        try simp only [kb_eq0, kb_ne0, lg_cmp_lt, lg_cmp_le, lg_cmp_gt, lg_cmp_ge, lg_cmp_eq] at t_16_23
        try simp only [Int32.lt_iff_toInt_lt, Int32.le_iff_toInt_le, ← Int32.toInt_inj, Int64.lt_iff_toInt_lt, Int64.le_iff_toInt_le, ← Int64.toInt_inj, Int32.toInt_toInt64, Int32.reduceToInt, Int64.reduceToInt] at t_16_23
        refine lv_lload_n hx hb dX8_lay_19 rfl (lv_at hl 2 rfl) ?_
        refine lv_ldc2 (v := (-2)) hx hb hown (hts (.constantLong RX8 111 (-2)) (List.mem_of_getElem? (i := 2) rfl)) dX8_lay_20 ?_
        refine W.lcmp hx hb dX8_lay_23 ?_
        refine lv_if_eq (tgt := 37) hx hb dX8_lay_24 (by decide) (fun c_24_28 => ?_) (fun c_24_28 => ?_)
        · have t_24_28 := c_24_28
          try simp only [kb_eq0, kb_ne0, lg_cmp_lt, lg_cmp_le, lg_cmp_gt, lg_cmp_ge, lg_cmp_eq] at t_24_28
          try simp only [Int32.lt_iff_toInt_lt, Int32.le_iff_toInt_le, ← Int32.toInt_inj, Int64.lt_iff_toInt_lt, Int64.le_iff_toInt_le, ← Int64.toInt_inj, Int32.toInt_toInt64, Int32.reduceToInt, Int64.reduceToInt] at t_24_28
          refine lv_aload_n hx hb dX8_lay_37 rfl (lv_at hl 0 rfl) ?_
          refine va_get (D := D) (ci := 8) (v := .ref mJ) (C := RX8) (T := TX8) (N := 31) hx hb hts iX8_lay_X8 hown hK hP 2 rfl rfl 15 (by decide) (hts (.fieldLink RX8 17 "TapeCalculatorModel" "items" "[I") (List.mem_of_getElem? (i := 4) rfl)) (fun _ h9 => h9) rfl dX8_lay_38 ?_
          refine lv_iload_n hx hb dX8_lay_41 rfl (lv_at hl 1 rfl) ?_
          refine va_iald hx hb hK hP 1 0 rfl rfl (vp_in_iff.mpr (by decide)) dX8_lay_42 ?_
          refine lv_sipush (v := 300) hx hb dX8_lay_43 (by decide) ?_
          refine lv_icmp_ne (tgt := 52) hx hb dX8_lay_46 (by decide) (fun c_46_29 => ?_) (fun c_46_29 => ?_)
          · have t_46_29 := c_46_29
            try simp only [kb_eq0, kb_ne0, lg_cmp_lt, lg_cmp_le, lg_cmp_gt, lg_cmp_ge, lg_cmp_eq] at t_46_29
            try simp only [Int32.lt_iff_toInt_lt, Int32.le_iff_toInt_le, ← Int32.toInt_inj, Int64.lt_iff_toInt_lt, Int64.le_iff_toInt_le, ← Int64.toInt_inj, Int32.toInt_toInt64, Int32.reduceToInt, Int64.reduceToInt] at t_46_29
            refine lv_aload_n hx hb dX8_lay_52 rfl (lv_at hl 0 rfl) ?_
            refine va_get (D := D) (ci := 8) (v := .ref mI) (C := RX8) (T := TX8) (N := 31) hx hb hts iX8_lay_X8 hown hK hP 2 rfl rfl 14 (by decide) (hts (.fieldLink RX8 13 "TapeCalculatorModel" "item" "[J") (List.mem_of_getElem? (i := 5) rfl)) (fun _ h9 => h9) rfl dX8_lay_53 ?_
            refine lv_sipush (v := 300) hx hb dX8_lay_56 (by decide) ?_
            refine lv_iload_n hx hb dX8_lay_59 rfl (lv_at hl 1 rfl) ?_
            refine lv_imul hx hb dX8_lay_60 ?_
            refine lv_topi (fun x_31 ex_31 => ?_)
            obtain rfl : x_31 = 300 := ex_31.trans (by decide)
            refine lv_aload_n hx hb dX8_lay_61 rfl (lv_at hl 0 rfl) ?_
            refine va_get (D := D) (ci := 8) (v := .ref mJ) (C := RX8) (T := TX8) (N := 31) hx hb hts iX8_lay_X8 hown hK hP 2 rfl rfl 15 (by decide) (hts (.fieldLink RX8 17 "TapeCalculatorModel" "items" "[I") (List.mem_of_getElem? (i := 4) rfl)) (fun _ h9 => h9) rfl dX8_lay_62 ?_
            refine lv_iload_n hx hb dX8_lay_65 rfl (lv_at hl 1 rfl) ?_
            refine va_iald hx hb hK hP 1 0 rfl rfl (vp_in_iff.mpr (by decide)) dX8_lay_66 ?_
            refine lv_iadd hx hb dX8_lay_67 ?_
            refine lv_topi (fun x_32 ex_32 => ?_)
            obtain rfl : x_32 = 300 := ex_32.trans (by decide)
            refine lv_lload_n hx hb dX8_lay_68 rfl (lv_at hl 2 rfl) ?_
            refine va_last hx hb hK hP hD hS 0 1 rfl rfl (vp_in_iff.mpr (by decide)) dX8_lay_69 (fun H locs hP hD hS => ?_)
            have hP : va_P D vwCl [(mI, .inl (cL, 1200, .inr (.inl (vp_updL (fun _ => 0) (300 : Int32).toNatClampNeg v)))), (mJ, .inl (cI, 4, .inl (fun _ => 0))), (m0, .inr (8, [.ref mH, .int 0, .long 0, .int 0, .long 0, .int 0, .int 0, .int 0, .int 0, .int 0, .int 0, .long 0, .int 0, .int 0, .ref mI, .ref mJ, .ref mS, .ref mD, .int 0, .int 0, .int 0, .long 0, .ref mX, .int 0, .int 0, .int 0, .ref mA, .ref mB, .ref mW, .ref mL, .int 0]))] H := hP
            have hD : va_D A [(mI, .inl (cL, 1200, .inr (.inl (vp_updL (fun _ => 0) (300 : Int32).toNatClampNeg v)))), (mJ, .inl (cI, 4, .inl (fun _ => 0))), (m0, .inr (8, [.ref mH, .int 0, .long 0, .int 0, .long 0, .int 0, .int 0, .int 0, .int 0, .int 0, .int 0, .long 0, .int 0, .int 0, .ref mI, .ref mJ, .ref mS, .ref mD, .int 0, .int 0, .int 0, .long 0, .ref mX, .int 0, .int 0, .int 0, .ref mA, .ref mB, .ref mW, .ref mL, .int 0]))] := hD
            refine lv_aload_n hx hb dX8_lay_70 rfl (lv_at hl 0 rfl) ?_
            refine va_get (D := D) (ci := 8) (v := .ref mJ) (C := RX8) (T := TX8) (N := 31) hx hb hts iX8_lay_X8 hown hK hP 2 rfl rfl 15 (by decide) (hts (.fieldLink RX8 17 "TapeCalculatorModel" "items" "[I") (List.mem_of_getElem? (i := 4) rfl)) (fun _ h9 => h9) rfl dX8_lay_71 ?_
            refine lv_iload_n hx hb dX8_lay_74 rfl (lv_at hl 1 rfl) ?_
            refine lv_dup2_11 hx hb dX8_lay_75 rfl rfl ?_
            refine va_iald hx hb hK hP 1 0 rfl rfl (vp_in_iff.mpr (by decide)) dX8_lay_76 ?_
            refine lv_iconst (v := 1) hx hb dX8_lay_77 (by decide) ?_
            refine lv_iadd hx hb dX8_lay_78 ?_
            refine lv_topi (fun x_33 ex_33 => ?_)
            obtain rfl : x_33 = 1 := ex_33.trans (by decide)
            refine va_iast hx hb hK hP hD hS 1 0 rfl rfl (vp_in_iff.mpr (by decide)) dX8_lay_79 (fun H locs hP hD hS => ?_)
            have hP : va_P D vwCl [(mI, .inl (cL, 1200, .inr (.inl (vp_updL (fun _ => 0) (300 : Int32).toNatClampNeg v)))), (mJ, .inl (cI, 4, .inl (upd (fun _ => 0) (1 : Int32).toNatClampNeg 1))), (m0, .inr (8, [.ref mH, .int 0, .long 0, .int 0, .long 0, .int 0, .int 0, .int 0, .int 0, .int 0, .int 0, .long 0, .int 0, .int 0, .ref mI, .ref mJ, .ref mS, .ref mD, .int 0, .int 0, .int 0, .long 0, .ref mX, .int 0, .int 0, .int 0, .ref mA, .ref mB, .ref mW, .ref mL, .int 0]))] H := hP
            have hD : va_D A [(mI, .inl (cL, 1200, .inr (.inl (vp_updL (fun _ => 0) (300 : Int32).toNatClampNeg v)))), (mJ, .inl (cI, 4, .inl (upd (fun _ => 0) (1 : Int32).toNatClampNeg 1))), (m0, .inr (8, [.ref mH, .int 0, .long 0, .int 0, .long 0, .int 0, .int 0, .int 0, .int 0, .int 0, .int 0, .long 0, .int 0, .int 0, .ref mI, .ref mJ, .ref mS, .ref mD, .int 0, .int 0, .int 0, .long 0, .ref mX, .int 0, .int 0, .int 0, .ref mA, .ref mB, .ref mW, .ref mL, .int 0]))] := hD
            refine lv_aload_n hx hb dX8_lay_80 rfl (lv_at hl 0 rfl) ?_
            refine va_get (D := D) (ci := 8) (v := .ref mJ) (C := RX8) (T := TX8) (N := 31) hx hb hts iX8_lay_X8 hown hK hP 2 rfl rfl 15 (by decide) (hts (.fieldLink RX8 17 "TapeCalculatorModel" "items" "[I") (List.mem_of_getElem? (i := 4) rfl)) (fun _ h9 => h9) rfl dX8_lay_81 ?_
            refine lv_iload_n hx hb dX8_lay_84 rfl (lv_at hl 1 rfl) ?_
            refine va_iald hx hb hK hP 1 0 rfl rfl (vp_in_iff.mpr (by decide)) dX8_lay_85 ?_
            refine kIret (u := ((vp_updL (fun _ => 0) (300 : Int32).toNatClampNeg v), (upd (fun _ => 0) (1 : Int32).toNatClampNeg 1))) hx hb hr rfl hlocks hS dX8_lay_86 ?_ (hP.sub [2, 0, 1] rfl) (hD.sub [2, 0, 1] (by decide) rfl)
            first
              | exact (kif_t ⟨by decide, by omega⟩).symm
              | exact (kif_t (by omega)).symm
              | exact (kif_f (by omega)).symm
              | exact (kif_f (fun h => absurd h.2 (by omega))).symm
          · exact absurd c_46_29 (by decide)
        · have t_24_28 := c_24_28
          try simp only [kb_eq0, kb_ne0, lg_cmp_lt, lg_cmp_le, lg_cmp_gt, lg_cmp_ge, lg_cmp_eq] at t_24_28
          try simp only [Int32.lt_iff_toInt_lt, Int32.le_iff_toInt_le, ← Int32.toInt_inj, Int64.lt_iff_toInt_lt, Int64.le_iff_toInt_le, ← Int64.toInt_inj, Int32.toInt_toInt64, Int32.reduceToInt, Int64.reduceToInt] at t_24_28
          refine lv_lload_n hx hb dX8_lay_27 rfl (lv_at hl 2 rfl) ?_
          refine lv_ldc2 (v := (-3)) hx hb hown (hts (.constantLong RX8 113 (-3)) (List.mem_of_getElem? (i := 3) rfl)) dX8_lay_28 ?_
          refine W.lcmp hx hb dX8_lay_31 ?_
          refine lv_if_eq (tgt := 37) hx hb dX8_lay_32 (by decide) (fun c_32_33 => ?_) (fun c_32_33 => ?_)
          · have t_32_33 := c_32_33
            try simp only [kb_eq0, kb_ne0, lg_cmp_lt, lg_cmp_le, lg_cmp_gt, lg_cmp_ge, lg_cmp_eq] at t_32_33
            try simp only [Int32.lt_iff_toInt_lt, Int32.le_iff_toInt_le, ← Int32.toInt_inj, Int64.lt_iff_toInt_lt, Int64.le_iff_toInt_le, ← Int64.toInt_inj, Int32.toInt_toInt64, Int32.reduceToInt, Int64.reduceToInt] at t_32_33
            refine lv_aload_n hx hb dX8_lay_37 rfl (lv_at hl 0 rfl) ?_
            refine va_get (D := D) (ci := 8) (v := .ref mJ) (C := RX8) (T := TX8) (N := 31) hx hb hts iX8_lay_X8 hown hK hP 2 rfl rfl 15 (by decide) (hts (.fieldLink RX8 17 "TapeCalculatorModel" "items" "[I") (List.mem_of_getElem? (i := 4) rfl)) (fun _ h9 => h9) rfl dX8_lay_38 ?_
            refine lv_iload_n hx hb dX8_lay_41 rfl (lv_at hl 1 rfl) ?_
            refine va_iald hx hb hK hP 1 0 rfl rfl (vp_in_iff.mpr (by decide)) dX8_lay_42 ?_
            refine lv_sipush (v := 300) hx hb dX8_lay_43 (by decide) ?_
            refine lv_icmp_ne (tgt := 52) hx hb dX8_lay_46 (by decide) (fun c_46_34 => ?_) (fun c_46_34 => ?_)
            · have t_46_34 := c_46_34
              try simp only [kb_eq0, kb_ne0, lg_cmp_lt, lg_cmp_le, lg_cmp_gt, lg_cmp_ge, lg_cmp_eq] at t_46_34
              try simp only [Int32.lt_iff_toInt_lt, Int32.le_iff_toInt_le, ← Int32.toInt_inj, Int64.lt_iff_toInt_lt, Int64.le_iff_toInt_le, ← Int64.toInt_inj, Int32.toInt_toInt64, Int32.reduceToInt, Int64.reduceToInt] at t_46_34
              refine lv_aload_n hx hb dX8_lay_52 rfl (lv_at hl 0 rfl) ?_
              refine va_get (D := D) (ci := 8) (v := .ref mI) (C := RX8) (T := TX8) (N := 31) hx hb hts iX8_lay_X8 hown hK hP 2 rfl rfl 14 (by decide) (hts (.fieldLink RX8 13 "TapeCalculatorModel" "item" "[J") (List.mem_of_getElem? (i := 5) rfl)) (fun _ h9 => h9) rfl dX8_lay_53 ?_
              refine lv_sipush (v := 300) hx hb dX8_lay_56 (by decide) ?_
              refine lv_iload_n hx hb dX8_lay_59 rfl (lv_at hl 1 rfl) ?_
              refine lv_imul hx hb dX8_lay_60 ?_
              refine lv_topi (fun x_36 ex_36 => ?_)
              obtain rfl : x_36 = 300 := ex_36.trans (by decide)
              refine lv_aload_n hx hb dX8_lay_61 rfl (lv_at hl 0 rfl) ?_
              refine va_get (D := D) (ci := 8) (v := .ref mJ) (C := RX8) (T := TX8) (N := 31) hx hb hts iX8_lay_X8 hown hK hP 2 rfl rfl 15 (by decide) (hts (.fieldLink RX8 17 "TapeCalculatorModel" "items" "[I") (List.mem_of_getElem? (i := 4) rfl)) (fun _ h9 => h9) rfl dX8_lay_62 ?_
              refine lv_iload_n hx hb dX8_lay_65 rfl (lv_at hl 1 rfl) ?_
              refine va_iald hx hb hK hP 1 0 rfl rfl (vp_in_iff.mpr (by decide)) dX8_lay_66 ?_
              refine lv_iadd hx hb dX8_lay_67 ?_
              refine lv_topi (fun x_37 ex_37 => ?_)
              obtain rfl : x_37 = 300 := ex_37.trans (by decide)
              refine lv_lload_n hx hb dX8_lay_68 rfl (lv_at hl 2 rfl) ?_
              refine va_last hx hb hK hP hD hS 0 1 rfl rfl (vp_in_iff.mpr (by decide)) dX8_lay_69 (fun H locs hP hD hS => ?_)
              have hP : va_P D vwCl [(mI, .inl (cL, 1200, .inr (.inl (vp_updL (fun _ => 0) (300 : Int32).toNatClampNeg v)))), (mJ, .inl (cI, 4, .inl (fun _ => 0))), (m0, .inr (8, [.ref mH, .int 0, .long 0, .int 0, .long 0, .int 0, .int 0, .int 0, .int 0, .int 0, .int 0, .long 0, .int 0, .int 0, .ref mI, .ref mJ, .ref mS, .ref mD, .int 0, .int 0, .int 0, .long 0, .ref mX, .int 0, .int 0, .int 0, .ref mA, .ref mB, .ref mW, .ref mL, .int 0]))] H := hP
              have hD : va_D A [(mI, .inl (cL, 1200, .inr (.inl (vp_updL (fun _ => 0) (300 : Int32).toNatClampNeg v)))), (mJ, .inl (cI, 4, .inl (fun _ => 0))), (m0, .inr (8, [.ref mH, .int 0, .long 0, .int 0, .long 0, .int 0, .int 0, .int 0, .int 0, .int 0, .int 0, .long 0, .int 0, .int 0, .ref mI, .ref mJ, .ref mS, .ref mD, .int 0, .int 0, .int 0, .long 0, .ref mX, .int 0, .int 0, .int 0, .ref mA, .ref mB, .ref mW, .ref mL, .int 0]))] := hD
              refine lv_aload_n hx hb dX8_lay_70 rfl (lv_at hl 0 rfl) ?_
              refine va_get (D := D) (ci := 8) (v := .ref mJ) (C := RX8) (T := TX8) (N := 31) hx hb hts iX8_lay_X8 hown hK hP 2 rfl rfl 15 (by decide) (hts (.fieldLink RX8 17 "TapeCalculatorModel" "items" "[I") (List.mem_of_getElem? (i := 4) rfl)) (fun _ h9 => h9) rfl dX8_lay_71 ?_
              refine lv_iload_n hx hb dX8_lay_74 rfl (lv_at hl 1 rfl) ?_
              refine lv_dup2_11 hx hb dX8_lay_75 rfl rfl ?_
              refine va_iald hx hb hK hP 1 0 rfl rfl (vp_in_iff.mpr (by decide)) dX8_lay_76 ?_
              refine lv_iconst (v := 1) hx hb dX8_lay_77 (by decide) ?_
              refine lv_iadd hx hb dX8_lay_78 ?_
              refine lv_topi (fun x_38 ex_38 => ?_)
              obtain rfl : x_38 = 1 := ex_38.trans (by decide)
              refine va_iast hx hb hK hP hD hS 1 0 rfl rfl (vp_in_iff.mpr (by decide)) dX8_lay_79 (fun H locs hP hD hS => ?_)
              have hP : va_P D vwCl [(mI, .inl (cL, 1200, .inr (.inl (vp_updL (fun _ => 0) (300 : Int32).toNatClampNeg v)))), (mJ, .inl (cI, 4, .inl (upd (fun _ => 0) (1 : Int32).toNatClampNeg 1))), (m0, .inr (8, [.ref mH, .int 0, .long 0, .int 0, .long 0, .int 0, .int 0, .int 0, .int 0, .int 0, .int 0, .long 0, .int 0, .int 0, .ref mI, .ref mJ, .ref mS, .ref mD, .int 0, .int 0, .int 0, .long 0, .ref mX, .int 0, .int 0, .int 0, .ref mA, .ref mB, .ref mW, .ref mL, .int 0]))] H := hP
              have hD : va_D A [(mI, .inl (cL, 1200, .inr (.inl (vp_updL (fun _ => 0) (300 : Int32).toNatClampNeg v)))), (mJ, .inl (cI, 4, .inl (upd (fun _ => 0) (1 : Int32).toNatClampNeg 1))), (m0, .inr (8, [.ref mH, .int 0, .long 0, .int 0, .long 0, .int 0, .int 0, .int 0, .int 0, .int 0, .int 0, .long 0, .int 0, .int 0, .ref mI, .ref mJ, .ref mS, .ref mD, .int 0, .int 0, .int 0, .long 0, .ref mX, .int 0, .int 0, .int 0, .ref mA, .ref mB, .ref mW, .ref mL, .int 0]))] := hD
              refine lv_aload_n hx hb dX8_lay_80 rfl (lv_at hl 0 rfl) ?_
              refine va_get (D := D) (ci := 8) (v := .ref mJ) (C := RX8) (T := TX8) (N := 31) hx hb hts iX8_lay_X8 hown hK hP 2 rfl rfl 15 (by decide) (hts (.fieldLink RX8 17 "TapeCalculatorModel" "items" "[I") (List.mem_of_getElem? (i := 4) rfl)) (fun _ h9 => h9) rfl dX8_lay_81 ?_
              refine lv_iload_n hx hb dX8_lay_84 rfl (lv_at hl 1 rfl) ?_
              refine va_iald hx hb hK hP 1 0 rfl rfl (vp_in_iff.mpr (by decide)) dX8_lay_85 ?_
              refine kIret (u := ((vp_updL (fun _ => 0) (300 : Int32).toNatClampNeg v), (upd (fun _ => 0) (1 : Int32).toNatClampNeg 1))) hx hb hr rfl hlocks hS dX8_lay_86 ?_ (hP.sub [2, 0, 1] rfl) (hD.sub [2, 0, 1] (by decide) rfl)
              first
                | exact (kif_t ⟨by decide, by omega⟩).symm
                | exact (kif_t (by omega)).symm
                | exact (kif_f (by omega)).symm
                | exact (kif_f (fun h => absurd h.2 (by omega))).symm
            · exact absurd c_46_34 (by decide)
          · have t_32_33 := c_32_33
            try simp only [kb_eq0, kb_ne0, lg_cmp_lt, lg_cmp_le, lg_cmp_gt, lg_cmp_ge, lg_cmp_eq] at t_32_33
            try simp only [Int32.lt_iff_toInt_lt, Int32.le_iff_toInt_le, ← Int32.toInt_inj, Int64.lt_iff_toInt_lt, Int64.le_iff_toInt_le, ← Int64.toInt_inj, Int32.toInt_toInt64, Int32.reduceToInt, Int64.reduceToInt] at t_32_33
            refine lv_iconst (v := (-1)) hx hb dX8_lay_35 (by decide) ?_
            refine kIret (u := ((fun _ => 0), (fun _ => 0))) hx hb hr rfl hlocks hS dX8_lay_36 ?_ (hP.sub [2, 0, 1] rfl) (hD.sub [2, 0, 1] (by decide) rfl)
            first
              | exact (kif_t ⟨by decide, by omega⟩).symm
              | exact (kif_t (by omega)).symm
              | exact (kif_f (by omega)).symm
              | exact (kif_f (fun h => absurd h.2 (by omega))).symm
  · refine lv_aload_n hx hb dX8_lay_0 rfl (lv_at hl 0 rfl) ?_
    refine lv_iload_n hx hb dX8_lay_1 rfl (lv_at hl 1 rfl) ?_
    refine kCallI (wr := [(mI, .inl (cL, 1200, .inr (.inl (fun _ => 0)))), (mJ, .inl (cI, 4, .inl (fun _ => 0)))]) (va_runV (As := [.int 2]) (rest := []) ⟨hx, hb, hml, hown, hts⟩ (r_isTape l D cI cL cB cZ cT _ m0 mH mI mJ mS mD mX mA mB mW mL 2) (cwV 1 hts gX8_lay_X8_isTape rfl rfl rfl (by decide +kernel) ⟨Nat.le_of_ble_eq_true rfl, Nat.le_of_ble_eq_true rfl⟩) (kPreV hG hP hD [0] rfl (by decide) 0 8 rfl rfl rfl) rfl rfl hl.1 rfl (lv_room (Nat.le_of_ble_eq_true rfl)) dX8_lay_2 ⟨Nat.le_of_ble_eq_true rfl, Nat.le_of_ble_eq_true rfl⟩) hA hP hD hS [0] [1, 2] rfl rfl (by decide) (by decide) (fun r_39 u_r_39 H locs wr_39 hP hD hS => ?_)
    have hP : va_P D vwCl [(mI, .inl (cL, 1200, .inr (.inl (fun _ => 0)))), (mJ, .inl (cI, 4, .inl (fun _ => 0))), (m0, .inr (8, [.ref mH, .int 0, .long 0, .int 0, .long 0, .int 0, .int 0, .int 0, .int 0, .int 0, .int 0, .long 0, .int 0, .int 0, .ref mI, .ref mJ, .ref mS, .ref mD, .int 0, .int 0, .int 0, .long 0, .ref mX, .int 0, .int 0, .int 0, .ref mA, .ref mB, .ref mW, .ref mL, .int 0]))] H := hP
    have hD : va_D A [(mI, .inl (cL, 1200, .inr (.inl (fun _ => 0)))), (mJ, .inl (cI, 4, .inl (fun _ => 0))), (m0, .inr (8, [.ref mH, .int 0, .long 0, .int 0, .long 0, .int 0, .int 0, .int 0, .int 0, .int 0, .int 0, .long 0, .int 0, .int 0, .ref mI, .ref mJ, .ref mS, .ref mD, .int 0, .int 0, .int 0, .long 0, .ref mX, .int 0, .int 0, .int 0, .ref mA, .ref mB, .ref mW, .ref mL, .int 0]))] := hD
    try dsimp only at wr_39
    subst wr_39
    refine lv_if_eq (tgt := 35) hx hb dX8_lay_5 (by decide) (fun c_5_39 => ?_) (fun c_5_39 => ?_)
    · have t_5_39 := c_5_39
      try simp only [kb_eq0, kb_ne0, lg_cmp_lt, lg_cmp_le, lg_cmp_gt, lg_cmp_ge, lg_cmp_eq] at t_5_39
      try simp only [Int32.lt_iff_toInt_lt, Int32.le_iff_toInt_le, ← Int32.toInt_inj, Int64.lt_iff_toInt_lt, Int64.le_iff_toInt_le, ← Int64.toInt_inj, Int32.toInt_toInt64, Int32.reduceToInt, Int64.reduceToInt] at t_5_39
      omega
    · have t_5_39 := c_5_39
      try simp only [kb_eq0, kb_ne0, lg_cmp_lt, lg_cmp_le, lg_cmp_gt, lg_cmp_ge, lg_cmp_eq] at t_5_39
      try simp only [Int32.lt_iff_toInt_lt, Int32.le_iff_toInt_le, ← Int32.toInt_inj, Int64.lt_iff_toInt_lt, Int64.le_iff_toInt_le, ← Int64.toInt_inj, Int32.toInt_toInt64, Int32.reduceToInt, Int64.reduceToInt] at t_5_39
      refine lv_lload_n hx hb dX8_lay_8 rfl (lv_at hl 2 rfl) ?_
      refine lv_lconst (v := 0) hx hb dX8_lay_9 (by decide) ?_
      refine lv_ldc2 (v := 68719476735) hx hb hown (hts (.constantLong RX8 109 (68719476735)) (List.mem_of_getElem? (i := 1) rfl)) dX8_lay_10 ?_
      refine kCallI (wr := [(mI, .inl (cL, 1200, .inr (.inl (fun _ => 0)))), (mJ, .inl (cI, 4, .inl (fun _ => 0))), (m0, .inr (8, [.ref mH, .int 0, .long 0, .int 0, .long 0, .int 0, .int 0, .int 0, .int 0, .int 0, .int 0, .long 0, .int 0, .int 0, .ref mI, .ref mJ, .ref mS, .ref mD, .int 0, .int 0, .int 0, .long 0, .ref mX, .int 0, .int 0, .int 0, .ref mA, .ref mB, .ref mW, .ref mL, .int 0]))]) (va_runS (As := [.long v, .long 0, .long 68719476735]) (rest := []) ⟨hx, hb, hml, hown, hts⟩ (r_in l D cI cL cB cZ cT _ v 0 68719476735) (va_cwS 3 hts gX8_lay_X8_in rfl rfl rfl (by decide +kernel) ⟨Nat.le_of_ble_eq_true rfl, Nat.le_of_ble_eq_true rfl⟩) (kPreS hG hP hD [] rfl (by decide)) rfl rfl hl.1 rfl (lv_room (Nat.le_of_ble_eq_true rfl)) dX8_lay_13 ⟨Nat.le_of_ble_eq_true rfl, Nat.le_of_ble_eq_true rfl⟩) hA hP hD hS [] [0, 1, 2] rfl rfl (by decide) (by decide) (fun r_41 u_r_41 H locs wr_41 hP hD hS => ?_)
      have hP : va_P D vwCl [(mI, .inl (cL, 1200, .inr (.inl (fun _ => 0)))), (mJ, .inl (cI, 4, .inl (fun _ => 0))), (m0, .inr (8, [.ref mH, .int 0, .long 0, .int 0, .long 0, .int 0, .int 0, .int 0, .int 0, .int 0, .int 0, .long 0, .int 0, .int 0, .ref mI, .ref mJ, .ref mS, .ref mD, .int 0, .int 0, .int 0, .long 0, .ref mX, .int 0, .int 0, .int 0, .ref mA, .ref mB, .ref mW, .ref mL, .int 0]))] H := hP
      have hD : va_D A [(mI, .inl (cL, 1200, .inr (.inl (fun _ => 0)))), (mJ, .inl (cI, 4, .inl (fun _ => 0))), (m0, .inr (8, [.ref mH, .int 0, .long 0, .int 0, .long 0, .int 0, .int 0, .int 0, .int 0, .int 0, .int 0, .long 0, .int 0, .int 0, .ref mI, .ref mJ, .ref mS, .ref mD, .int 0, .int 0, .int 0, .long 0, .ref mX, .int 0, .int 0, .int 0, .ref mA, .ref mB, .ref mW, .ref mL, .int 0]))] := hD
      try dsimp only at wr_41
      subst wr_41
      refine lv_if_ne (tgt := 37) hx hb dX8_lay_16 (by decide) (fun c_16_41 => ?_) (fun c_16_41 => ?_)
      · have t_16_41 := c_16_41
        try simp only [kb_eq0, kb_ne0, lg_cmp_lt, lg_cmp_le, lg_cmp_gt, lg_cmp_ge, lg_cmp_eq] at t_16_41
        try simp only [Int32.lt_iff_toInt_lt, Int32.le_iff_toInt_le, ← Int32.toInt_inj, Int64.lt_iff_toInt_lt, Int64.le_iff_toInt_le, ← Int64.toInt_inj, Int32.toInt_toInt64, Int32.reduceToInt, Int64.reduceToInt] at t_16_41
        refine lv_aload_n hx hb dX8_lay_37 rfl (lv_at hl 0 rfl) ?_
        refine va_get (D := D) (ci := 8) (v := .ref mJ) (C := RX8) (T := TX8) (N := 31) hx hb hts iX8_lay_X8 hown hK hP 2 rfl rfl 15 (by decide) (hts (.fieldLink RX8 17 "TapeCalculatorModel" "items" "[I") (List.mem_of_getElem? (i := 4) rfl)) (fun _ h9 => h9) rfl dX8_lay_38 ?_
        refine lv_iload_n hx hb dX8_lay_41 rfl (lv_at hl 1 rfl) ?_
        refine va_iald hx hb hK hP 1 0 rfl rfl (vp_in_iff.mpr (by decide)) dX8_lay_42 ?_
        refine lv_sipush (v := 300) hx hb dX8_lay_43 (by decide) ?_
        refine lv_icmp_ne (tgt := 52) hx hb dX8_lay_46 (by decide) (fun c_46_42 => ?_) (fun c_46_42 => ?_)
        · have t_46_42 := c_46_42
          try simp only [kb_eq0, kb_ne0, lg_cmp_lt, lg_cmp_le, lg_cmp_gt, lg_cmp_ge, lg_cmp_eq] at t_46_42
          try simp only [Int32.lt_iff_toInt_lt, Int32.le_iff_toInt_le, ← Int32.toInt_inj, Int64.lt_iff_toInt_lt, Int64.le_iff_toInt_le, ← Int64.toInt_inj, Int32.toInt_toInt64, Int32.reduceToInt, Int64.reduceToInt] at t_46_42
          refine lv_aload_n hx hb dX8_lay_52 rfl (lv_at hl 0 rfl) ?_
          refine va_get (D := D) (ci := 8) (v := .ref mI) (C := RX8) (T := TX8) (N := 31) hx hb hts iX8_lay_X8 hown hK hP 2 rfl rfl 14 (by decide) (hts (.fieldLink RX8 13 "TapeCalculatorModel" "item" "[J") (List.mem_of_getElem? (i := 5) rfl)) (fun _ h9 => h9) rfl dX8_lay_53 ?_
          refine lv_sipush (v := 300) hx hb dX8_lay_56 (by decide) ?_
          refine lv_iload_n hx hb dX8_lay_59 rfl (lv_at hl 1 rfl) ?_
          refine lv_imul hx hb dX8_lay_60 ?_
          refine lv_topi (fun x_44 ex_44 => ?_)
          obtain rfl : x_44 = 600 := ex_44.trans (by decide)
          refine lv_aload_n hx hb dX8_lay_61 rfl (lv_at hl 0 rfl) ?_
          refine va_get (D := D) (ci := 8) (v := .ref mJ) (C := RX8) (T := TX8) (N := 31) hx hb hts iX8_lay_X8 hown hK hP 2 rfl rfl 15 (by decide) (hts (.fieldLink RX8 17 "TapeCalculatorModel" "items" "[I") (List.mem_of_getElem? (i := 4) rfl)) (fun _ h9 => h9) rfl dX8_lay_62 ?_
          refine lv_iload_n hx hb dX8_lay_65 rfl (lv_at hl 1 rfl) ?_
          refine va_iald hx hb hK hP 1 0 rfl rfl (vp_in_iff.mpr (by decide)) dX8_lay_66 ?_
          refine lv_iadd hx hb dX8_lay_67 ?_
          refine lv_topi (fun x_45 ex_45 => ?_)
          obtain rfl : x_45 = 600 := ex_45.trans (by decide)
          refine lv_lload_n hx hb dX8_lay_68 rfl (lv_at hl 2 rfl) ?_
          refine va_last hx hb hK hP hD hS 0 1 rfl rfl (vp_in_iff.mpr (by decide)) dX8_lay_69 (fun H locs hP hD hS => ?_)
          have hP : va_P D vwCl [(mI, .inl (cL, 1200, .inr (.inl (vp_updL (fun _ => 0) (600 : Int32).toNatClampNeg v)))), (mJ, .inl (cI, 4, .inl (fun _ => 0))), (m0, .inr (8, [.ref mH, .int 0, .long 0, .int 0, .long 0, .int 0, .int 0, .int 0, .int 0, .int 0, .int 0, .long 0, .int 0, .int 0, .ref mI, .ref mJ, .ref mS, .ref mD, .int 0, .int 0, .int 0, .long 0, .ref mX, .int 0, .int 0, .int 0, .ref mA, .ref mB, .ref mW, .ref mL, .int 0]))] H := hP
          have hD : va_D A [(mI, .inl (cL, 1200, .inr (.inl (vp_updL (fun _ => 0) (600 : Int32).toNatClampNeg v)))), (mJ, .inl (cI, 4, .inl (fun _ => 0))), (m0, .inr (8, [.ref mH, .int 0, .long 0, .int 0, .long 0, .int 0, .int 0, .int 0, .int 0, .int 0, .int 0, .long 0, .int 0, .int 0, .ref mI, .ref mJ, .ref mS, .ref mD, .int 0, .int 0, .int 0, .long 0, .ref mX, .int 0, .int 0, .int 0, .ref mA, .ref mB, .ref mW, .ref mL, .int 0]))] := hD
          refine lv_aload_n hx hb dX8_lay_70 rfl (lv_at hl 0 rfl) ?_
          refine va_get (D := D) (ci := 8) (v := .ref mJ) (C := RX8) (T := TX8) (N := 31) hx hb hts iX8_lay_X8 hown hK hP 2 rfl rfl 15 (by decide) (hts (.fieldLink RX8 17 "TapeCalculatorModel" "items" "[I") (List.mem_of_getElem? (i := 4) rfl)) (fun _ h9 => h9) rfl dX8_lay_71 ?_
          refine lv_iload_n hx hb dX8_lay_74 rfl (lv_at hl 1 rfl) ?_
          refine lv_dup2_11 hx hb dX8_lay_75 rfl rfl ?_
          refine va_iald hx hb hK hP 1 0 rfl rfl (vp_in_iff.mpr (by decide)) dX8_lay_76 ?_
          refine lv_iconst (v := 1) hx hb dX8_lay_77 (by decide) ?_
          refine lv_iadd hx hb dX8_lay_78 ?_
          refine lv_topi (fun x_46 ex_46 => ?_)
          obtain rfl : x_46 = 1 := ex_46.trans (by decide)
          refine va_iast hx hb hK hP hD hS 1 0 rfl rfl (vp_in_iff.mpr (by decide)) dX8_lay_79 (fun H locs hP hD hS => ?_)
          have hP : va_P D vwCl [(mI, .inl (cL, 1200, .inr (.inl (vp_updL (fun _ => 0) (600 : Int32).toNatClampNeg v)))), (mJ, .inl (cI, 4, .inl (upd (fun _ => 0) (2 : Int32).toNatClampNeg 1))), (m0, .inr (8, [.ref mH, .int 0, .long 0, .int 0, .long 0, .int 0, .int 0, .int 0, .int 0, .int 0, .int 0, .long 0, .int 0, .int 0, .ref mI, .ref mJ, .ref mS, .ref mD, .int 0, .int 0, .int 0, .long 0, .ref mX, .int 0, .int 0, .int 0, .ref mA, .ref mB, .ref mW, .ref mL, .int 0]))] H := hP
          have hD : va_D A [(mI, .inl (cL, 1200, .inr (.inl (vp_updL (fun _ => 0) (600 : Int32).toNatClampNeg v)))), (mJ, .inl (cI, 4, .inl (upd (fun _ => 0) (2 : Int32).toNatClampNeg 1))), (m0, .inr (8, [.ref mH, .int 0, .long 0, .int 0, .long 0, .int 0, .int 0, .int 0, .int 0, .int 0, .int 0, .long 0, .int 0, .int 0, .ref mI, .ref mJ, .ref mS, .ref mD, .int 0, .int 0, .int 0, .long 0, .ref mX, .int 0, .int 0, .int 0, .ref mA, .ref mB, .ref mW, .ref mL, .int 0]))] := hD
          refine lv_aload_n hx hb dX8_lay_80 rfl (lv_at hl 0 rfl) ?_
          refine va_get (D := D) (ci := 8) (v := .ref mJ) (C := RX8) (T := TX8) (N := 31) hx hb hts iX8_lay_X8 hown hK hP 2 rfl rfl 15 (by decide) (hts (.fieldLink RX8 17 "TapeCalculatorModel" "items" "[I") (List.mem_of_getElem? (i := 4) rfl)) (fun _ h9 => h9) rfl dX8_lay_81 ?_
          refine lv_iload_n hx hb dX8_lay_84 rfl (lv_at hl 1 rfl) ?_
          refine va_iald hx hb hK hP 1 0 rfl rfl (vp_in_iff.mpr (by decide)) dX8_lay_85 ?_
          refine kIret (u := ((vp_updL (fun _ => 0) (600 : Int32).toNatClampNeg v), (upd (fun _ => 0) (2 : Int32).toNatClampNeg 1))) hx hb hr rfl hlocks hS dX8_lay_86 ?_ (hP.sub [2, 0, 1] rfl) (hD.sub [2, 0, 1] (by decide) rfl)
          first
            | exact (kif_t ⟨by decide, by omega⟩).symm
            | exact (kif_t (by omega)).symm
            | exact (kif_f (by omega)).symm
            | exact (kif_f (fun h => absurd h.2 (by omega))).symm
        · exact absurd c_46_42 (by decide)
      · have t_16_41 := c_16_41
        try simp only [kb_eq0, kb_ne0, lg_cmp_lt, lg_cmp_le, lg_cmp_gt, lg_cmp_ge, lg_cmp_eq] at t_16_41
        try simp only [Int32.lt_iff_toInt_lt, Int32.le_iff_toInt_le, ← Int32.toInt_inj, Int64.lt_iff_toInt_lt, Int64.le_iff_toInt_le, ← Int64.toInt_inj, Int32.toInt_toInt64, Int32.reduceToInt, Int64.reduceToInt] at t_16_41
        refine lv_lload_n hx hb dX8_lay_19 rfl (lv_at hl 2 rfl) ?_
        refine lv_ldc2 (v := (-2)) hx hb hown (hts (.constantLong RX8 111 (-2)) (List.mem_of_getElem? (i := 2) rfl)) dX8_lay_20 ?_
        refine W.lcmp hx hb dX8_lay_23 ?_
        refine lv_if_eq (tgt := 37) hx hb dX8_lay_24 (by decide) (fun c_24_46 => ?_) (fun c_24_46 => ?_)
        · have t_24_46 := c_24_46
          try simp only [kb_eq0, kb_ne0, lg_cmp_lt, lg_cmp_le, lg_cmp_gt, lg_cmp_ge, lg_cmp_eq] at t_24_46
          try simp only [Int32.lt_iff_toInt_lt, Int32.le_iff_toInt_le, ← Int32.toInt_inj, Int64.lt_iff_toInt_lt, Int64.le_iff_toInt_le, ← Int64.toInt_inj, Int32.toInt_toInt64, Int32.reduceToInt, Int64.reduceToInt] at t_24_46
          refine lv_aload_n hx hb dX8_lay_37 rfl (lv_at hl 0 rfl) ?_
          refine va_get (D := D) (ci := 8) (v := .ref mJ) (C := RX8) (T := TX8) (N := 31) hx hb hts iX8_lay_X8 hown hK hP 2 rfl rfl 15 (by decide) (hts (.fieldLink RX8 17 "TapeCalculatorModel" "items" "[I") (List.mem_of_getElem? (i := 4) rfl)) (fun _ h9 => h9) rfl dX8_lay_38 ?_
          refine lv_iload_n hx hb dX8_lay_41 rfl (lv_at hl 1 rfl) ?_
          refine va_iald hx hb hK hP 1 0 rfl rfl (vp_in_iff.mpr (by decide)) dX8_lay_42 ?_
          refine lv_sipush (v := 300) hx hb dX8_lay_43 (by decide) ?_
          refine lv_icmp_ne (tgt := 52) hx hb dX8_lay_46 (by decide) (fun c_46_47 => ?_) (fun c_46_47 => ?_)
          · have t_46_47 := c_46_47
            try simp only [kb_eq0, kb_ne0, lg_cmp_lt, lg_cmp_le, lg_cmp_gt, lg_cmp_ge, lg_cmp_eq] at t_46_47
            try simp only [Int32.lt_iff_toInt_lt, Int32.le_iff_toInt_le, ← Int32.toInt_inj, Int64.lt_iff_toInt_lt, Int64.le_iff_toInt_le, ← Int64.toInt_inj, Int32.toInt_toInt64, Int32.reduceToInt, Int64.reduceToInt] at t_46_47
            refine lv_aload_n hx hb dX8_lay_52 rfl (lv_at hl 0 rfl) ?_
            refine va_get (D := D) (ci := 8) (v := .ref mI) (C := RX8) (T := TX8) (N := 31) hx hb hts iX8_lay_X8 hown hK hP 2 rfl rfl 14 (by decide) (hts (.fieldLink RX8 13 "TapeCalculatorModel" "item" "[J") (List.mem_of_getElem? (i := 5) rfl)) (fun _ h9 => h9) rfl dX8_lay_53 ?_
            refine lv_sipush (v := 300) hx hb dX8_lay_56 (by decide) ?_
            refine lv_iload_n hx hb dX8_lay_59 rfl (lv_at hl 1 rfl) ?_
            refine lv_imul hx hb dX8_lay_60 ?_
            refine lv_topi (fun x_49 ex_49 => ?_)
            obtain rfl : x_49 = 600 := ex_49.trans (by decide)
            refine lv_aload_n hx hb dX8_lay_61 rfl (lv_at hl 0 rfl) ?_
            refine va_get (D := D) (ci := 8) (v := .ref mJ) (C := RX8) (T := TX8) (N := 31) hx hb hts iX8_lay_X8 hown hK hP 2 rfl rfl 15 (by decide) (hts (.fieldLink RX8 17 "TapeCalculatorModel" "items" "[I") (List.mem_of_getElem? (i := 4) rfl)) (fun _ h9 => h9) rfl dX8_lay_62 ?_
            refine lv_iload_n hx hb dX8_lay_65 rfl (lv_at hl 1 rfl) ?_
            refine va_iald hx hb hK hP 1 0 rfl rfl (vp_in_iff.mpr (by decide)) dX8_lay_66 ?_
            refine lv_iadd hx hb dX8_lay_67 ?_
            refine lv_topi (fun x_50 ex_50 => ?_)
            obtain rfl : x_50 = 600 := ex_50.trans (by decide)
            refine lv_lload_n hx hb dX8_lay_68 rfl (lv_at hl 2 rfl) ?_
            refine va_last hx hb hK hP hD hS 0 1 rfl rfl (vp_in_iff.mpr (by decide)) dX8_lay_69 (fun H locs hP hD hS => ?_)
            have hP : va_P D vwCl [(mI, .inl (cL, 1200, .inr (.inl (vp_updL (fun _ => 0) (600 : Int32).toNatClampNeg v)))), (mJ, .inl (cI, 4, .inl (fun _ => 0))), (m0, .inr (8, [.ref mH, .int 0, .long 0, .int 0, .long 0, .int 0, .int 0, .int 0, .int 0, .int 0, .int 0, .long 0, .int 0, .int 0, .ref mI, .ref mJ, .ref mS, .ref mD, .int 0, .int 0, .int 0, .long 0, .ref mX, .int 0, .int 0, .int 0, .ref mA, .ref mB, .ref mW, .ref mL, .int 0]))] H := hP
            have hD : va_D A [(mI, .inl (cL, 1200, .inr (.inl (vp_updL (fun _ => 0) (600 : Int32).toNatClampNeg v)))), (mJ, .inl (cI, 4, .inl (fun _ => 0))), (m0, .inr (8, [.ref mH, .int 0, .long 0, .int 0, .long 0, .int 0, .int 0, .int 0, .int 0, .int 0, .int 0, .long 0, .int 0, .int 0, .ref mI, .ref mJ, .ref mS, .ref mD, .int 0, .int 0, .int 0, .long 0, .ref mX, .int 0, .int 0, .int 0, .ref mA, .ref mB, .ref mW, .ref mL, .int 0]))] := hD
            refine lv_aload_n hx hb dX8_lay_70 rfl (lv_at hl 0 rfl) ?_
            refine va_get (D := D) (ci := 8) (v := .ref mJ) (C := RX8) (T := TX8) (N := 31) hx hb hts iX8_lay_X8 hown hK hP 2 rfl rfl 15 (by decide) (hts (.fieldLink RX8 17 "TapeCalculatorModel" "items" "[I") (List.mem_of_getElem? (i := 4) rfl)) (fun _ h9 => h9) rfl dX8_lay_71 ?_
            refine lv_iload_n hx hb dX8_lay_74 rfl (lv_at hl 1 rfl) ?_
            refine lv_dup2_11 hx hb dX8_lay_75 rfl rfl ?_
            refine va_iald hx hb hK hP 1 0 rfl rfl (vp_in_iff.mpr (by decide)) dX8_lay_76 ?_
            refine lv_iconst (v := 1) hx hb dX8_lay_77 (by decide) ?_
            refine lv_iadd hx hb dX8_lay_78 ?_
            refine lv_topi (fun x_51 ex_51 => ?_)
            obtain rfl : x_51 = 1 := ex_51.trans (by decide)
            refine va_iast hx hb hK hP hD hS 1 0 rfl rfl (vp_in_iff.mpr (by decide)) dX8_lay_79 (fun H locs hP hD hS => ?_)
            have hP : va_P D vwCl [(mI, .inl (cL, 1200, .inr (.inl (vp_updL (fun _ => 0) (600 : Int32).toNatClampNeg v)))), (mJ, .inl (cI, 4, .inl (upd (fun _ => 0) (2 : Int32).toNatClampNeg 1))), (m0, .inr (8, [.ref mH, .int 0, .long 0, .int 0, .long 0, .int 0, .int 0, .int 0, .int 0, .int 0, .int 0, .long 0, .int 0, .int 0, .ref mI, .ref mJ, .ref mS, .ref mD, .int 0, .int 0, .int 0, .long 0, .ref mX, .int 0, .int 0, .int 0, .ref mA, .ref mB, .ref mW, .ref mL, .int 0]))] H := hP
            have hD : va_D A [(mI, .inl (cL, 1200, .inr (.inl (vp_updL (fun _ => 0) (600 : Int32).toNatClampNeg v)))), (mJ, .inl (cI, 4, .inl (upd (fun _ => 0) (2 : Int32).toNatClampNeg 1))), (m0, .inr (8, [.ref mH, .int 0, .long 0, .int 0, .long 0, .int 0, .int 0, .int 0, .int 0, .int 0, .int 0, .long 0, .int 0, .int 0, .ref mI, .ref mJ, .ref mS, .ref mD, .int 0, .int 0, .int 0, .long 0, .ref mX, .int 0, .int 0, .int 0, .ref mA, .ref mB, .ref mW, .ref mL, .int 0]))] := hD
            refine lv_aload_n hx hb dX8_lay_80 rfl (lv_at hl 0 rfl) ?_
            refine va_get (D := D) (ci := 8) (v := .ref mJ) (C := RX8) (T := TX8) (N := 31) hx hb hts iX8_lay_X8 hown hK hP 2 rfl rfl 15 (by decide) (hts (.fieldLink RX8 17 "TapeCalculatorModel" "items" "[I") (List.mem_of_getElem? (i := 4) rfl)) (fun _ h9 => h9) rfl dX8_lay_81 ?_
            refine lv_iload_n hx hb dX8_lay_84 rfl (lv_at hl 1 rfl) ?_
            refine va_iald hx hb hK hP 1 0 rfl rfl (vp_in_iff.mpr (by decide)) dX8_lay_85 ?_
            refine kIret (u := ((vp_updL (fun _ => 0) (600 : Int32).toNatClampNeg v), (upd (fun _ => 0) (2 : Int32).toNatClampNeg 1))) hx hb hr rfl hlocks hS dX8_lay_86 ?_ (hP.sub [2, 0, 1] rfl) (hD.sub [2, 0, 1] (by decide) rfl)
            first
              | exact (kif_t ⟨by decide, by omega⟩).symm
              | exact (kif_t (by omega)).symm
              | exact (kif_f (by omega)).symm
              | exact (kif_f (fun h => absurd h.2 (by omega))).symm
          · exact absurd c_46_47 (by decide)
        · have t_24_46 := c_24_46
          try simp only [kb_eq0, kb_ne0, lg_cmp_lt, lg_cmp_le, lg_cmp_gt, lg_cmp_ge, lg_cmp_eq] at t_24_46
          try simp only [Int32.lt_iff_toInt_lt, Int32.le_iff_toInt_le, ← Int32.toInt_inj, Int64.lt_iff_toInt_lt, Int64.le_iff_toInt_le, ← Int64.toInt_inj, Int32.toInt_toInt64, Int32.reduceToInt, Int64.reduceToInt] at t_24_46
          refine lv_lload_n hx hb dX8_lay_27 rfl (lv_at hl 2 rfl) ?_
          refine lv_ldc2 (v := (-3)) hx hb hown (hts (.constantLong RX8 113 (-3)) (List.mem_of_getElem? (i := 3) rfl)) dX8_lay_28 ?_
          refine W.lcmp hx hb dX8_lay_31 ?_
          refine lv_if_eq (tgt := 37) hx hb dX8_lay_32 (by decide) (fun c_32_51 => ?_) (fun c_32_51 => ?_)
          · have t_32_51 := c_32_51
            try simp only [kb_eq0, kb_ne0, lg_cmp_lt, lg_cmp_le, lg_cmp_gt, lg_cmp_ge, lg_cmp_eq] at t_32_51
            try simp only [Int32.lt_iff_toInt_lt, Int32.le_iff_toInt_le, ← Int32.toInt_inj, Int64.lt_iff_toInt_lt, Int64.le_iff_toInt_le, ← Int64.toInt_inj, Int32.toInt_toInt64, Int32.reduceToInt, Int64.reduceToInt] at t_32_51
            refine lv_aload_n hx hb dX8_lay_37 rfl (lv_at hl 0 rfl) ?_
            refine va_get (D := D) (ci := 8) (v := .ref mJ) (C := RX8) (T := TX8) (N := 31) hx hb hts iX8_lay_X8 hown hK hP 2 rfl rfl 15 (by decide) (hts (.fieldLink RX8 17 "TapeCalculatorModel" "items" "[I") (List.mem_of_getElem? (i := 4) rfl)) (fun _ h9 => h9) rfl dX8_lay_38 ?_
            refine lv_iload_n hx hb dX8_lay_41 rfl (lv_at hl 1 rfl) ?_
            refine va_iald hx hb hK hP 1 0 rfl rfl (vp_in_iff.mpr (by decide)) dX8_lay_42 ?_
            refine lv_sipush (v := 300) hx hb dX8_lay_43 (by decide) ?_
            refine lv_icmp_ne (tgt := 52) hx hb dX8_lay_46 (by decide) (fun c_46_52 => ?_) (fun c_46_52 => ?_)
            · have t_46_52 := c_46_52
              try simp only [kb_eq0, kb_ne0, lg_cmp_lt, lg_cmp_le, lg_cmp_gt, lg_cmp_ge, lg_cmp_eq] at t_46_52
              try simp only [Int32.lt_iff_toInt_lt, Int32.le_iff_toInt_le, ← Int32.toInt_inj, Int64.lt_iff_toInt_lt, Int64.le_iff_toInt_le, ← Int64.toInt_inj, Int32.toInt_toInt64, Int32.reduceToInt, Int64.reduceToInt] at t_46_52
              refine lv_aload_n hx hb dX8_lay_52 rfl (lv_at hl 0 rfl) ?_
              refine va_get (D := D) (ci := 8) (v := .ref mI) (C := RX8) (T := TX8) (N := 31) hx hb hts iX8_lay_X8 hown hK hP 2 rfl rfl 14 (by decide) (hts (.fieldLink RX8 13 "TapeCalculatorModel" "item" "[J") (List.mem_of_getElem? (i := 5) rfl)) (fun _ h9 => h9) rfl dX8_lay_53 ?_
              refine lv_sipush (v := 300) hx hb dX8_lay_56 (by decide) ?_
              refine lv_iload_n hx hb dX8_lay_59 rfl (lv_at hl 1 rfl) ?_
              refine lv_imul hx hb dX8_lay_60 ?_
              refine lv_topi (fun x_54 ex_54 => ?_)
              obtain rfl : x_54 = 600 := ex_54.trans (by decide)
              refine lv_aload_n hx hb dX8_lay_61 rfl (lv_at hl 0 rfl) ?_
              refine va_get (D := D) (ci := 8) (v := .ref mJ) (C := RX8) (T := TX8) (N := 31) hx hb hts iX8_lay_X8 hown hK hP 2 rfl rfl 15 (by decide) (hts (.fieldLink RX8 17 "TapeCalculatorModel" "items" "[I") (List.mem_of_getElem? (i := 4) rfl)) (fun _ h9 => h9) rfl dX8_lay_62 ?_
              refine lv_iload_n hx hb dX8_lay_65 rfl (lv_at hl 1 rfl) ?_
              refine va_iald hx hb hK hP 1 0 rfl rfl (vp_in_iff.mpr (by decide)) dX8_lay_66 ?_
              refine lv_iadd hx hb dX8_lay_67 ?_
              refine lv_topi (fun x_55 ex_55 => ?_)
              obtain rfl : x_55 = 600 := ex_55.trans (by decide)
              refine lv_lload_n hx hb dX8_lay_68 rfl (lv_at hl 2 rfl) ?_
              refine va_last hx hb hK hP hD hS 0 1 rfl rfl (vp_in_iff.mpr (by decide)) dX8_lay_69 (fun H locs hP hD hS => ?_)
              have hP : va_P D vwCl [(mI, .inl (cL, 1200, .inr (.inl (vp_updL (fun _ => 0) (600 : Int32).toNatClampNeg v)))), (mJ, .inl (cI, 4, .inl (fun _ => 0))), (m0, .inr (8, [.ref mH, .int 0, .long 0, .int 0, .long 0, .int 0, .int 0, .int 0, .int 0, .int 0, .int 0, .long 0, .int 0, .int 0, .ref mI, .ref mJ, .ref mS, .ref mD, .int 0, .int 0, .int 0, .long 0, .ref mX, .int 0, .int 0, .int 0, .ref mA, .ref mB, .ref mW, .ref mL, .int 0]))] H := hP
              have hD : va_D A [(mI, .inl (cL, 1200, .inr (.inl (vp_updL (fun _ => 0) (600 : Int32).toNatClampNeg v)))), (mJ, .inl (cI, 4, .inl (fun _ => 0))), (m0, .inr (8, [.ref mH, .int 0, .long 0, .int 0, .long 0, .int 0, .int 0, .int 0, .int 0, .int 0, .int 0, .long 0, .int 0, .int 0, .ref mI, .ref mJ, .ref mS, .ref mD, .int 0, .int 0, .int 0, .long 0, .ref mX, .int 0, .int 0, .int 0, .ref mA, .ref mB, .ref mW, .ref mL, .int 0]))] := hD
              refine lv_aload_n hx hb dX8_lay_70 rfl (lv_at hl 0 rfl) ?_
              refine va_get (D := D) (ci := 8) (v := .ref mJ) (C := RX8) (T := TX8) (N := 31) hx hb hts iX8_lay_X8 hown hK hP 2 rfl rfl 15 (by decide) (hts (.fieldLink RX8 17 "TapeCalculatorModel" "items" "[I") (List.mem_of_getElem? (i := 4) rfl)) (fun _ h9 => h9) rfl dX8_lay_71 ?_
              refine lv_iload_n hx hb dX8_lay_74 rfl (lv_at hl 1 rfl) ?_
              refine lv_dup2_11 hx hb dX8_lay_75 rfl rfl ?_
              refine va_iald hx hb hK hP 1 0 rfl rfl (vp_in_iff.mpr (by decide)) dX8_lay_76 ?_
              refine lv_iconst (v := 1) hx hb dX8_lay_77 (by decide) ?_
              refine lv_iadd hx hb dX8_lay_78 ?_
              refine lv_topi (fun x_56 ex_56 => ?_)
              obtain rfl : x_56 = 1 := ex_56.trans (by decide)
              refine va_iast hx hb hK hP hD hS 1 0 rfl rfl (vp_in_iff.mpr (by decide)) dX8_lay_79 (fun H locs hP hD hS => ?_)
              have hP : va_P D vwCl [(mI, .inl (cL, 1200, .inr (.inl (vp_updL (fun _ => 0) (600 : Int32).toNatClampNeg v)))), (mJ, .inl (cI, 4, .inl (upd (fun _ => 0) (2 : Int32).toNatClampNeg 1))), (m0, .inr (8, [.ref mH, .int 0, .long 0, .int 0, .long 0, .int 0, .int 0, .int 0, .int 0, .int 0, .int 0, .long 0, .int 0, .int 0, .ref mI, .ref mJ, .ref mS, .ref mD, .int 0, .int 0, .int 0, .long 0, .ref mX, .int 0, .int 0, .int 0, .ref mA, .ref mB, .ref mW, .ref mL, .int 0]))] H := hP
              have hD : va_D A [(mI, .inl (cL, 1200, .inr (.inl (vp_updL (fun _ => 0) (600 : Int32).toNatClampNeg v)))), (mJ, .inl (cI, 4, .inl (upd (fun _ => 0) (2 : Int32).toNatClampNeg 1))), (m0, .inr (8, [.ref mH, .int 0, .long 0, .int 0, .long 0, .int 0, .int 0, .int 0, .int 0, .int 0, .int 0, .long 0, .int 0, .int 0, .ref mI, .ref mJ, .ref mS, .ref mD, .int 0, .int 0, .int 0, .long 0, .ref mX, .int 0, .int 0, .int 0, .ref mA, .ref mB, .ref mW, .ref mL, .int 0]))] := hD
              refine lv_aload_n hx hb dX8_lay_80 rfl (lv_at hl 0 rfl) ?_
              refine va_get (D := D) (ci := 8) (v := .ref mJ) (C := RX8) (T := TX8) (N := 31) hx hb hts iX8_lay_X8 hown hK hP 2 rfl rfl 15 (by decide) (hts (.fieldLink RX8 17 "TapeCalculatorModel" "items" "[I") (List.mem_of_getElem? (i := 4) rfl)) (fun _ h9 => h9) rfl dX8_lay_81 ?_
              refine lv_iload_n hx hb dX8_lay_84 rfl (lv_at hl 1 rfl) ?_
              refine va_iald hx hb hK hP 1 0 rfl rfl (vp_in_iff.mpr (by decide)) dX8_lay_85 ?_
              refine kIret (u := ((vp_updL (fun _ => 0) (600 : Int32).toNatClampNeg v), (upd (fun _ => 0) (2 : Int32).toNatClampNeg 1))) hx hb hr rfl hlocks hS dX8_lay_86 ?_ (hP.sub [2, 0, 1] rfl) (hD.sub [2, 0, 1] (by decide) rfl)
              first
                | exact (kif_t ⟨by decide, by omega⟩).symm
                | exact (kif_t (by omega)).symm
                | exact (kif_f (by omega)).symm
                | exact (kif_f (fun h => absurd h.2 (by omega))).symm
            · exact absurd c_46_52 (by decide)
          · have t_32_51 := c_32_51
            try simp only [kb_eq0, kb_ne0, lg_cmp_lt, lg_cmp_le, lg_cmp_gt, lg_cmp_ge, lg_cmp_eq] at t_32_51
            try simp only [Int32.lt_iff_toInt_lt, Int32.le_iff_toInt_le, ← Int32.toInt_inj, Int64.lt_iff_toInt_lt, Int64.le_iff_toInt_le, ← Int64.toInt_inj, Int32.toInt_toInt64, Int32.reduceToInt, Int64.reduceToInt] at t_32_51
            refine lv_iconst (v := (-1)) hx hb dX8_lay_35 (by decide) ?_
            refine kIret (u := ((fun _ => 0), (fun _ => 0))) hx hb hr rfl hlocks hS dX8_lay_36 ?_ (hP.sub [2, 0, 1] rfl) (hD.sub [2, 0, 1] (by decide) rfl)
            first
              | exact (kif_t ⟨by decide, by omega⟩).symm
              | exact (kif_t (by omega)).symm
              | exact (kif_f (by omega)).symm
              | exact (kif_f (fun h => absurd h.2 (by omega))).symm
  · refine lv_aload_n hx hb dX8_lay_0 rfl (lv_at hl 0 rfl) ?_
    refine lv_iload_n hx hb dX8_lay_1 rfl (lv_at hl 1 rfl) ?_
    refine kCallI (wr := [(mI, .inl (cL, 1200, .inr (.inl (fun _ => 0)))), (mJ, .inl (cI, 4, .inl (fun _ => 0)))]) (va_runV (As := [.int 3]) (rest := []) ⟨hx, hb, hml, hown, hts⟩ (r_isTape l D cI cL cB cZ cT _ m0 mH mI mJ mS mD mX mA mB mW mL 3) (cwV 1 hts gX8_lay_X8_isTape rfl rfl rfl (by decide +kernel) ⟨Nat.le_of_ble_eq_true rfl, Nat.le_of_ble_eq_true rfl⟩) (kPreV hG hP hD [0] rfl (by decide) 0 8 rfl rfl rfl) rfl rfl hl.1 rfl (lv_room (Nat.le_of_ble_eq_true rfl)) dX8_lay_2 ⟨Nat.le_of_ble_eq_true rfl, Nat.le_of_ble_eq_true rfl⟩) hA hP hD hS [0] [1, 2] rfl rfl (by decide) (by decide) (fun r_57 u_r_57 H locs wr_57 hP hD hS => ?_)
    have hP : va_P D vwCl [(mI, .inl (cL, 1200, .inr (.inl (fun _ => 0)))), (mJ, .inl (cI, 4, .inl (fun _ => 0))), (m0, .inr (8, [.ref mH, .int 0, .long 0, .int 0, .long 0, .int 0, .int 0, .int 0, .int 0, .int 0, .int 0, .long 0, .int 0, .int 0, .ref mI, .ref mJ, .ref mS, .ref mD, .int 0, .int 0, .int 0, .long 0, .ref mX, .int 0, .int 0, .int 0, .ref mA, .ref mB, .ref mW, .ref mL, .int 0]))] H := hP
    have hD : va_D A [(mI, .inl (cL, 1200, .inr (.inl (fun _ => 0)))), (mJ, .inl (cI, 4, .inl (fun _ => 0))), (m0, .inr (8, [.ref mH, .int 0, .long 0, .int 0, .long 0, .int 0, .int 0, .int 0, .int 0, .int 0, .int 0, .long 0, .int 0, .int 0, .ref mI, .ref mJ, .ref mS, .ref mD, .int 0, .int 0, .int 0, .long 0, .ref mX, .int 0, .int 0, .int 0, .ref mA, .ref mB, .ref mW, .ref mL, .int 0]))] := hD
    try dsimp only at wr_57
    subst wr_57
    refine lv_if_eq (tgt := 35) hx hb dX8_lay_5 (by decide) (fun c_5_57 => ?_) (fun c_5_57 => ?_)
    · have t_5_57 := c_5_57
      try simp only [kb_eq0, kb_ne0, lg_cmp_lt, lg_cmp_le, lg_cmp_gt, lg_cmp_ge, lg_cmp_eq] at t_5_57
      try simp only [Int32.lt_iff_toInt_lt, Int32.le_iff_toInt_le, ← Int32.toInt_inj, Int64.lt_iff_toInt_lt, Int64.le_iff_toInt_le, ← Int64.toInt_inj, Int32.toInt_toInt64, Int32.reduceToInt, Int64.reduceToInt] at t_5_57
      omega
    · have t_5_57 := c_5_57
      try simp only [kb_eq0, kb_ne0, lg_cmp_lt, lg_cmp_le, lg_cmp_gt, lg_cmp_ge, lg_cmp_eq] at t_5_57
      try simp only [Int32.lt_iff_toInt_lt, Int32.le_iff_toInt_le, ← Int32.toInt_inj, Int64.lt_iff_toInt_lt, Int64.le_iff_toInt_le, ← Int64.toInt_inj, Int32.toInt_toInt64, Int32.reduceToInt, Int64.reduceToInt] at t_5_57
      refine lv_lload_n hx hb dX8_lay_8 rfl (lv_at hl 2 rfl) ?_
      refine lv_lconst (v := 0) hx hb dX8_lay_9 (by decide) ?_
      refine lv_ldc2 (v := 68719476735) hx hb hown (hts (.constantLong RX8 109 (68719476735)) (List.mem_of_getElem? (i := 1) rfl)) dX8_lay_10 ?_
      refine kCallI (wr := [(mI, .inl (cL, 1200, .inr (.inl (fun _ => 0)))), (mJ, .inl (cI, 4, .inl (fun _ => 0))), (m0, .inr (8, [.ref mH, .int 0, .long 0, .int 0, .long 0, .int 0, .int 0, .int 0, .int 0, .int 0, .int 0, .long 0, .int 0, .int 0, .ref mI, .ref mJ, .ref mS, .ref mD, .int 0, .int 0, .int 0, .long 0, .ref mX, .int 0, .int 0, .int 0, .ref mA, .ref mB, .ref mW, .ref mL, .int 0]))]) (va_runS (As := [.long v, .long 0, .long 68719476735]) (rest := []) ⟨hx, hb, hml, hown, hts⟩ (r_in l D cI cL cB cZ cT _ v 0 68719476735) (va_cwS 3 hts gX8_lay_X8_in rfl rfl rfl (by decide +kernel) ⟨Nat.le_of_ble_eq_true rfl, Nat.le_of_ble_eq_true rfl⟩) (kPreS hG hP hD [] rfl (by decide)) rfl rfl hl.1 rfl (lv_room (Nat.le_of_ble_eq_true rfl)) dX8_lay_13 ⟨Nat.le_of_ble_eq_true rfl, Nat.le_of_ble_eq_true rfl⟩) hA hP hD hS [] [0, 1, 2] rfl rfl (by decide) (by decide) (fun r_59 u_r_59 H locs wr_59 hP hD hS => ?_)
      have hP : va_P D vwCl [(mI, .inl (cL, 1200, .inr (.inl (fun _ => 0)))), (mJ, .inl (cI, 4, .inl (fun _ => 0))), (m0, .inr (8, [.ref mH, .int 0, .long 0, .int 0, .long 0, .int 0, .int 0, .int 0, .int 0, .int 0, .int 0, .long 0, .int 0, .int 0, .ref mI, .ref mJ, .ref mS, .ref mD, .int 0, .int 0, .int 0, .long 0, .ref mX, .int 0, .int 0, .int 0, .ref mA, .ref mB, .ref mW, .ref mL, .int 0]))] H := hP
      have hD : va_D A [(mI, .inl (cL, 1200, .inr (.inl (fun _ => 0)))), (mJ, .inl (cI, 4, .inl (fun _ => 0))), (m0, .inr (8, [.ref mH, .int 0, .long 0, .int 0, .long 0, .int 0, .int 0, .int 0, .int 0, .int 0, .int 0, .long 0, .int 0, .int 0, .ref mI, .ref mJ, .ref mS, .ref mD, .int 0, .int 0, .int 0, .long 0, .ref mX, .int 0, .int 0, .int 0, .ref mA, .ref mB, .ref mW, .ref mL, .int 0]))] := hD
      try dsimp only at wr_59
      subst wr_59
      refine lv_if_ne (tgt := 37) hx hb dX8_lay_16 (by decide) (fun c_16_59 => ?_) (fun c_16_59 => ?_)
      · have t_16_59 := c_16_59
        try simp only [kb_eq0, kb_ne0, lg_cmp_lt, lg_cmp_le, lg_cmp_gt, lg_cmp_ge, lg_cmp_eq] at t_16_59
        try simp only [Int32.lt_iff_toInt_lt, Int32.le_iff_toInt_le, ← Int32.toInt_inj, Int64.lt_iff_toInt_lt, Int64.le_iff_toInt_le, ← Int64.toInt_inj, Int32.toInt_toInt64, Int32.reduceToInt, Int64.reduceToInt] at t_16_59
        refine lv_aload_n hx hb dX8_lay_37 rfl (lv_at hl 0 rfl) ?_
        refine va_get (D := D) (ci := 8) (v := .ref mJ) (C := RX8) (T := TX8) (N := 31) hx hb hts iX8_lay_X8 hown hK hP 2 rfl rfl 15 (by decide) (hts (.fieldLink RX8 17 "TapeCalculatorModel" "items" "[I") (List.mem_of_getElem? (i := 4) rfl)) (fun _ h9 => h9) rfl dX8_lay_38 ?_
        refine lv_iload_n hx hb dX8_lay_41 rfl (lv_at hl 1 rfl) ?_
        refine va_iald hx hb hK hP 1 0 rfl rfl (vp_in_iff.mpr (by decide)) dX8_lay_42 ?_
        refine lv_sipush (v := 300) hx hb dX8_lay_43 (by decide) ?_
        refine lv_icmp_ne (tgt := 52) hx hb dX8_lay_46 (by decide) (fun c_46_60 => ?_) (fun c_46_60 => ?_)
        · have t_46_60 := c_46_60
          try simp only [kb_eq0, kb_ne0, lg_cmp_lt, lg_cmp_le, lg_cmp_gt, lg_cmp_ge, lg_cmp_eq] at t_46_60
          try simp only [Int32.lt_iff_toInt_lt, Int32.le_iff_toInt_le, ← Int32.toInt_inj, Int64.lt_iff_toInt_lt, Int64.le_iff_toInt_le, ← Int64.toInt_inj, Int32.toInt_toInt64, Int32.reduceToInt, Int64.reduceToInt] at t_46_60
          refine lv_aload_n hx hb dX8_lay_52 rfl (lv_at hl 0 rfl) ?_
          refine va_get (D := D) (ci := 8) (v := .ref mI) (C := RX8) (T := TX8) (N := 31) hx hb hts iX8_lay_X8 hown hK hP 2 rfl rfl 14 (by decide) (hts (.fieldLink RX8 13 "TapeCalculatorModel" "item" "[J") (List.mem_of_getElem? (i := 5) rfl)) (fun _ h9 => h9) rfl dX8_lay_53 ?_
          refine lv_sipush (v := 300) hx hb dX8_lay_56 (by decide) ?_
          refine lv_iload_n hx hb dX8_lay_59 rfl (lv_at hl 1 rfl) ?_
          refine lv_imul hx hb dX8_lay_60 ?_
          refine lv_topi (fun x_62 ex_62 => ?_)
          obtain rfl : x_62 = 900 := ex_62.trans (by decide)
          refine lv_aload_n hx hb dX8_lay_61 rfl (lv_at hl 0 rfl) ?_
          refine va_get (D := D) (ci := 8) (v := .ref mJ) (C := RX8) (T := TX8) (N := 31) hx hb hts iX8_lay_X8 hown hK hP 2 rfl rfl 15 (by decide) (hts (.fieldLink RX8 17 "TapeCalculatorModel" "items" "[I") (List.mem_of_getElem? (i := 4) rfl)) (fun _ h9 => h9) rfl dX8_lay_62 ?_
          refine lv_iload_n hx hb dX8_lay_65 rfl (lv_at hl 1 rfl) ?_
          refine va_iald hx hb hK hP 1 0 rfl rfl (vp_in_iff.mpr (by decide)) dX8_lay_66 ?_
          refine lv_iadd hx hb dX8_lay_67 ?_
          refine lv_topi (fun x_63 ex_63 => ?_)
          obtain rfl : x_63 = 900 := ex_63.trans (by decide)
          refine lv_lload_n hx hb dX8_lay_68 rfl (lv_at hl 2 rfl) ?_
          refine va_last hx hb hK hP hD hS 0 1 rfl rfl (vp_in_iff.mpr (by decide)) dX8_lay_69 (fun H locs hP hD hS => ?_)
          have hP : va_P D vwCl [(mI, .inl (cL, 1200, .inr (.inl (vp_updL (fun _ => 0) (900 : Int32).toNatClampNeg v)))), (mJ, .inl (cI, 4, .inl (fun _ => 0))), (m0, .inr (8, [.ref mH, .int 0, .long 0, .int 0, .long 0, .int 0, .int 0, .int 0, .int 0, .int 0, .int 0, .long 0, .int 0, .int 0, .ref mI, .ref mJ, .ref mS, .ref mD, .int 0, .int 0, .int 0, .long 0, .ref mX, .int 0, .int 0, .int 0, .ref mA, .ref mB, .ref mW, .ref mL, .int 0]))] H := hP
          have hD : va_D A [(mI, .inl (cL, 1200, .inr (.inl (vp_updL (fun _ => 0) (900 : Int32).toNatClampNeg v)))), (mJ, .inl (cI, 4, .inl (fun _ => 0))), (m0, .inr (8, [.ref mH, .int 0, .long 0, .int 0, .long 0, .int 0, .int 0, .int 0, .int 0, .int 0, .int 0, .long 0, .int 0, .int 0, .ref mI, .ref mJ, .ref mS, .ref mD, .int 0, .int 0, .int 0, .long 0, .ref mX, .int 0, .int 0, .int 0, .ref mA, .ref mB, .ref mW, .ref mL, .int 0]))] := hD
          refine lv_aload_n hx hb dX8_lay_70 rfl (lv_at hl 0 rfl) ?_
          refine va_get (D := D) (ci := 8) (v := .ref mJ) (C := RX8) (T := TX8) (N := 31) hx hb hts iX8_lay_X8 hown hK hP 2 rfl rfl 15 (by decide) (hts (.fieldLink RX8 17 "TapeCalculatorModel" "items" "[I") (List.mem_of_getElem? (i := 4) rfl)) (fun _ h9 => h9) rfl dX8_lay_71 ?_
          refine lv_iload_n hx hb dX8_lay_74 rfl (lv_at hl 1 rfl) ?_
          refine lv_dup2_11 hx hb dX8_lay_75 rfl rfl ?_
          refine va_iald hx hb hK hP 1 0 rfl rfl (vp_in_iff.mpr (by decide)) dX8_lay_76 ?_
          refine lv_iconst (v := 1) hx hb dX8_lay_77 (by decide) ?_
          refine lv_iadd hx hb dX8_lay_78 ?_
          refine lv_topi (fun x_64 ex_64 => ?_)
          obtain rfl : x_64 = 1 := ex_64.trans (by decide)
          refine va_iast hx hb hK hP hD hS 1 0 rfl rfl (vp_in_iff.mpr (by decide)) dX8_lay_79 (fun H locs hP hD hS => ?_)
          have hP : va_P D vwCl [(mI, .inl (cL, 1200, .inr (.inl (vp_updL (fun _ => 0) (900 : Int32).toNatClampNeg v)))), (mJ, .inl (cI, 4, .inl (upd (fun _ => 0) (3 : Int32).toNatClampNeg 1))), (m0, .inr (8, [.ref mH, .int 0, .long 0, .int 0, .long 0, .int 0, .int 0, .int 0, .int 0, .int 0, .int 0, .long 0, .int 0, .int 0, .ref mI, .ref mJ, .ref mS, .ref mD, .int 0, .int 0, .int 0, .long 0, .ref mX, .int 0, .int 0, .int 0, .ref mA, .ref mB, .ref mW, .ref mL, .int 0]))] H := hP
          have hD : va_D A [(mI, .inl (cL, 1200, .inr (.inl (vp_updL (fun _ => 0) (900 : Int32).toNatClampNeg v)))), (mJ, .inl (cI, 4, .inl (upd (fun _ => 0) (3 : Int32).toNatClampNeg 1))), (m0, .inr (8, [.ref mH, .int 0, .long 0, .int 0, .long 0, .int 0, .int 0, .int 0, .int 0, .int 0, .int 0, .long 0, .int 0, .int 0, .ref mI, .ref mJ, .ref mS, .ref mD, .int 0, .int 0, .int 0, .long 0, .ref mX, .int 0, .int 0, .int 0, .ref mA, .ref mB, .ref mW, .ref mL, .int 0]))] := hD
          refine lv_aload_n hx hb dX8_lay_80 rfl (lv_at hl 0 rfl) ?_
          refine va_get (D := D) (ci := 8) (v := .ref mJ) (C := RX8) (T := TX8) (N := 31) hx hb hts iX8_lay_X8 hown hK hP 2 rfl rfl 15 (by decide) (hts (.fieldLink RX8 17 "TapeCalculatorModel" "items" "[I") (List.mem_of_getElem? (i := 4) rfl)) (fun _ h9 => h9) rfl dX8_lay_81 ?_
          refine lv_iload_n hx hb dX8_lay_84 rfl (lv_at hl 1 rfl) ?_
          refine va_iald hx hb hK hP 1 0 rfl rfl (vp_in_iff.mpr (by decide)) dX8_lay_85 ?_
          refine kIret (u := ((vp_updL (fun _ => 0) (900 : Int32).toNatClampNeg v), (upd (fun _ => 0) (3 : Int32).toNatClampNeg 1))) hx hb hr rfl hlocks hS dX8_lay_86 ?_ (hP.sub [2, 0, 1] rfl) (hD.sub [2, 0, 1] (by decide) rfl)
          first
            | exact (kif_t ⟨by decide, by omega⟩).symm
            | exact (kif_t (by omega)).symm
            | exact (kif_f (by omega)).symm
            | exact (kif_f (fun h => absurd h.2 (by omega))).symm
        · exact absurd c_46_60 (by decide)
      · have t_16_59 := c_16_59
        try simp only [kb_eq0, kb_ne0, lg_cmp_lt, lg_cmp_le, lg_cmp_gt, lg_cmp_ge, lg_cmp_eq] at t_16_59
        try simp only [Int32.lt_iff_toInt_lt, Int32.le_iff_toInt_le, ← Int32.toInt_inj, Int64.lt_iff_toInt_lt, Int64.le_iff_toInt_le, ← Int64.toInt_inj, Int32.toInt_toInt64, Int32.reduceToInt, Int64.reduceToInt] at t_16_59
        refine lv_lload_n hx hb dX8_lay_19 rfl (lv_at hl 2 rfl) ?_
        refine lv_ldc2 (v := (-2)) hx hb hown (hts (.constantLong RX8 111 (-2)) (List.mem_of_getElem? (i := 2) rfl)) dX8_lay_20 ?_
        refine W.lcmp hx hb dX8_lay_23 ?_
        refine lv_if_eq (tgt := 37) hx hb dX8_lay_24 (by decide) (fun c_24_64 => ?_) (fun c_24_64 => ?_)
        · have t_24_64 := c_24_64
          try simp only [kb_eq0, kb_ne0, lg_cmp_lt, lg_cmp_le, lg_cmp_gt, lg_cmp_ge, lg_cmp_eq] at t_24_64
          try simp only [Int32.lt_iff_toInt_lt, Int32.le_iff_toInt_le, ← Int32.toInt_inj, Int64.lt_iff_toInt_lt, Int64.le_iff_toInt_le, ← Int64.toInt_inj, Int32.toInt_toInt64, Int32.reduceToInt, Int64.reduceToInt] at t_24_64
          refine lv_aload_n hx hb dX8_lay_37 rfl (lv_at hl 0 rfl) ?_
          refine va_get (D := D) (ci := 8) (v := .ref mJ) (C := RX8) (T := TX8) (N := 31) hx hb hts iX8_lay_X8 hown hK hP 2 rfl rfl 15 (by decide) (hts (.fieldLink RX8 17 "TapeCalculatorModel" "items" "[I") (List.mem_of_getElem? (i := 4) rfl)) (fun _ h9 => h9) rfl dX8_lay_38 ?_
          refine lv_iload_n hx hb dX8_lay_41 rfl (lv_at hl 1 rfl) ?_
          refine va_iald hx hb hK hP 1 0 rfl rfl (vp_in_iff.mpr (by decide)) dX8_lay_42 ?_
          refine lv_sipush (v := 300) hx hb dX8_lay_43 (by decide) ?_
          refine lv_icmp_ne (tgt := 52) hx hb dX8_lay_46 (by decide) (fun c_46_65 => ?_) (fun c_46_65 => ?_)
          · have t_46_65 := c_46_65
            try simp only [kb_eq0, kb_ne0, lg_cmp_lt, lg_cmp_le, lg_cmp_gt, lg_cmp_ge, lg_cmp_eq] at t_46_65
            try simp only [Int32.lt_iff_toInt_lt, Int32.le_iff_toInt_le, ← Int32.toInt_inj, Int64.lt_iff_toInt_lt, Int64.le_iff_toInt_le, ← Int64.toInt_inj, Int32.toInt_toInt64, Int32.reduceToInt, Int64.reduceToInt] at t_46_65
            refine lv_aload_n hx hb dX8_lay_52 rfl (lv_at hl 0 rfl) ?_
            refine va_get (D := D) (ci := 8) (v := .ref mI) (C := RX8) (T := TX8) (N := 31) hx hb hts iX8_lay_X8 hown hK hP 2 rfl rfl 14 (by decide) (hts (.fieldLink RX8 13 "TapeCalculatorModel" "item" "[J") (List.mem_of_getElem? (i := 5) rfl)) (fun _ h9 => h9) rfl dX8_lay_53 ?_
            refine lv_sipush (v := 300) hx hb dX8_lay_56 (by decide) ?_
            refine lv_iload_n hx hb dX8_lay_59 rfl (lv_at hl 1 rfl) ?_
            refine lv_imul hx hb dX8_lay_60 ?_
            refine lv_topi (fun x_67 ex_67 => ?_)
            obtain rfl : x_67 = 900 := ex_67.trans (by decide)
            refine lv_aload_n hx hb dX8_lay_61 rfl (lv_at hl 0 rfl) ?_
            refine va_get (D := D) (ci := 8) (v := .ref mJ) (C := RX8) (T := TX8) (N := 31) hx hb hts iX8_lay_X8 hown hK hP 2 rfl rfl 15 (by decide) (hts (.fieldLink RX8 17 "TapeCalculatorModel" "items" "[I") (List.mem_of_getElem? (i := 4) rfl)) (fun _ h9 => h9) rfl dX8_lay_62 ?_
            refine lv_iload_n hx hb dX8_lay_65 rfl (lv_at hl 1 rfl) ?_
            refine va_iald hx hb hK hP 1 0 rfl rfl (vp_in_iff.mpr (by decide)) dX8_lay_66 ?_
            refine lv_iadd hx hb dX8_lay_67 ?_
            refine lv_topi (fun x_68 ex_68 => ?_)
            obtain rfl : x_68 = 900 := ex_68.trans (by decide)
            refine lv_lload_n hx hb dX8_lay_68 rfl (lv_at hl 2 rfl) ?_
            refine va_last hx hb hK hP hD hS 0 1 rfl rfl (vp_in_iff.mpr (by decide)) dX8_lay_69 (fun H locs hP hD hS => ?_)
            have hP : va_P D vwCl [(mI, .inl (cL, 1200, .inr (.inl (vp_updL (fun _ => 0) (900 : Int32).toNatClampNeg v)))), (mJ, .inl (cI, 4, .inl (fun _ => 0))), (m0, .inr (8, [.ref mH, .int 0, .long 0, .int 0, .long 0, .int 0, .int 0, .int 0, .int 0, .int 0, .int 0, .long 0, .int 0, .int 0, .ref mI, .ref mJ, .ref mS, .ref mD, .int 0, .int 0, .int 0, .long 0, .ref mX, .int 0, .int 0, .int 0, .ref mA, .ref mB, .ref mW, .ref mL, .int 0]))] H := hP
            have hD : va_D A [(mI, .inl (cL, 1200, .inr (.inl (vp_updL (fun _ => 0) (900 : Int32).toNatClampNeg v)))), (mJ, .inl (cI, 4, .inl (fun _ => 0))), (m0, .inr (8, [.ref mH, .int 0, .long 0, .int 0, .long 0, .int 0, .int 0, .int 0, .int 0, .int 0, .int 0, .long 0, .int 0, .int 0, .ref mI, .ref mJ, .ref mS, .ref mD, .int 0, .int 0, .int 0, .long 0, .ref mX, .int 0, .int 0, .int 0, .ref mA, .ref mB, .ref mW, .ref mL, .int 0]))] := hD
            refine lv_aload_n hx hb dX8_lay_70 rfl (lv_at hl 0 rfl) ?_
            refine va_get (D := D) (ci := 8) (v := .ref mJ) (C := RX8) (T := TX8) (N := 31) hx hb hts iX8_lay_X8 hown hK hP 2 rfl rfl 15 (by decide) (hts (.fieldLink RX8 17 "TapeCalculatorModel" "items" "[I") (List.mem_of_getElem? (i := 4) rfl)) (fun _ h9 => h9) rfl dX8_lay_71 ?_
            refine lv_iload_n hx hb dX8_lay_74 rfl (lv_at hl 1 rfl) ?_
            refine lv_dup2_11 hx hb dX8_lay_75 rfl rfl ?_
            refine va_iald hx hb hK hP 1 0 rfl rfl (vp_in_iff.mpr (by decide)) dX8_lay_76 ?_
            refine lv_iconst (v := 1) hx hb dX8_lay_77 (by decide) ?_
            refine lv_iadd hx hb dX8_lay_78 ?_
            refine lv_topi (fun x_69 ex_69 => ?_)
            obtain rfl : x_69 = 1 := ex_69.trans (by decide)
            refine va_iast hx hb hK hP hD hS 1 0 rfl rfl (vp_in_iff.mpr (by decide)) dX8_lay_79 (fun H locs hP hD hS => ?_)
            have hP : va_P D vwCl [(mI, .inl (cL, 1200, .inr (.inl (vp_updL (fun _ => 0) (900 : Int32).toNatClampNeg v)))), (mJ, .inl (cI, 4, .inl (upd (fun _ => 0) (3 : Int32).toNatClampNeg 1))), (m0, .inr (8, [.ref mH, .int 0, .long 0, .int 0, .long 0, .int 0, .int 0, .int 0, .int 0, .int 0, .int 0, .long 0, .int 0, .int 0, .ref mI, .ref mJ, .ref mS, .ref mD, .int 0, .int 0, .int 0, .long 0, .ref mX, .int 0, .int 0, .int 0, .ref mA, .ref mB, .ref mW, .ref mL, .int 0]))] H := hP
            have hD : va_D A [(mI, .inl (cL, 1200, .inr (.inl (vp_updL (fun _ => 0) (900 : Int32).toNatClampNeg v)))), (mJ, .inl (cI, 4, .inl (upd (fun _ => 0) (3 : Int32).toNatClampNeg 1))), (m0, .inr (8, [.ref mH, .int 0, .long 0, .int 0, .long 0, .int 0, .int 0, .int 0, .int 0, .int 0, .int 0, .long 0, .int 0, .int 0, .ref mI, .ref mJ, .ref mS, .ref mD, .int 0, .int 0, .int 0, .long 0, .ref mX, .int 0, .int 0, .int 0, .ref mA, .ref mB, .ref mW, .ref mL, .int 0]))] := hD
            refine lv_aload_n hx hb dX8_lay_80 rfl (lv_at hl 0 rfl) ?_
            refine va_get (D := D) (ci := 8) (v := .ref mJ) (C := RX8) (T := TX8) (N := 31) hx hb hts iX8_lay_X8 hown hK hP 2 rfl rfl 15 (by decide) (hts (.fieldLink RX8 17 "TapeCalculatorModel" "items" "[I") (List.mem_of_getElem? (i := 4) rfl)) (fun _ h9 => h9) rfl dX8_lay_81 ?_
            refine lv_iload_n hx hb dX8_lay_84 rfl (lv_at hl 1 rfl) ?_
            refine va_iald hx hb hK hP 1 0 rfl rfl (vp_in_iff.mpr (by decide)) dX8_lay_85 ?_
            refine kIret (u := ((vp_updL (fun _ => 0) (900 : Int32).toNatClampNeg v), (upd (fun _ => 0) (3 : Int32).toNatClampNeg 1))) hx hb hr rfl hlocks hS dX8_lay_86 ?_ (hP.sub [2, 0, 1] rfl) (hD.sub [2, 0, 1] (by decide) rfl)
            first
              | exact (kif_t ⟨by decide, by omega⟩).symm
              | exact (kif_t (by omega)).symm
              | exact (kif_f (by omega)).symm
              | exact (kif_f (fun h => absurd h.2 (by omega))).symm
          · exact absurd c_46_65 (by decide)
        · have t_24_64 := c_24_64
          try simp only [kb_eq0, kb_ne0, lg_cmp_lt, lg_cmp_le, lg_cmp_gt, lg_cmp_ge, lg_cmp_eq] at t_24_64
          try simp only [Int32.lt_iff_toInt_lt, Int32.le_iff_toInt_le, ← Int32.toInt_inj, Int64.lt_iff_toInt_lt, Int64.le_iff_toInt_le, ← Int64.toInt_inj, Int32.toInt_toInt64, Int32.reduceToInt, Int64.reduceToInt] at t_24_64
          refine lv_lload_n hx hb dX8_lay_27 rfl (lv_at hl 2 rfl) ?_
          refine lv_ldc2 (v := (-3)) hx hb hown (hts (.constantLong RX8 113 (-3)) (List.mem_of_getElem? (i := 3) rfl)) dX8_lay_28 ?_
          refine W.lcmp hx hb dX8_lay_31 ?_
          refine lv_if_eq (tgt := 37) hx hb dX8_lay_32 (by decide) (fun c_32_69 => ?_) (fun c_32_69 => ?_)
          · have t_32_69 := c_32_69
            try simp only [kb_eq0, kb_ne0, lg_cmp_lt, lg_cmp_le, lg_cmp_gt, lg_cmp_ge, lg_cmp_eq] at t_32_69
            try simp only [Int32.lt_iff_toInt_lt, Int32.le_iff_toInt_le, ← Int32.toInt_inj, Int64.lt_iff_toInt_lt, Int64.le_iff_toInt_le, ← Int64.toInt_inj, Int32.toInt_toInt64, Int32.reduceToInt, Int64.reduceToInt] at t_32_69
            refine lv_aload_n hx hb dX8_lay_37 rfl (lv_at hl 0 rfl) ?_
            refine va_get (D := D) (ci := 8) (v := .ref mJ) (C := RX8) (T := TX8) (N := 31) hx hb hts iX8_lay_X8 hown hK hP 2 rfl rfl 15 (by decide) (hts (.fieldLink RX8 17 "TapeCalculatorModel" "items" "[I") (List.mem_of_getElem? (i := 4) rfl)) (fun _ h9 => h9) rfl dX8_lay_38 ?_
            refine lv_iload_n hx hb dX8_lay_41 rfl (lv_at hl 1 rfl) ?_
            refine va_iald hx hb hK hP 1 0 rfl rfl (vp_in_iff.mpr (by decide)) dX8_lay_42 ?_
            refine lv_sipush (v := 300) hx hb dX8_lay_43 (by decide) ?_
            refine lv_icmp_ne (tgt := 52) hx hb dX8_lay_46 (by decide) (fun c_46_70 => ?_) (fun c_46_70 => ?_)
            · have t_46_70 := c_46_70
              try simp only [kb_eq0, kb_ne0, lg_cmp_lt, lg_cmp_le, lg_cmp_gt, lg_cmp_ge, lg_cmp_eq] at t_46_70
              try simp only [Int32.lt_iff_toInt_lt, Int32.le_iff_toInt_le, ← Int32.toInt_inj, Int64.lt_iff_toInt_lt, Int64.le_iff_toInt_le, ← Int64.toInt_inj, Int32.toInt_toInt64, Int32.reduceToInt, Int64.reduceToInt] at t_46_70
              refine lv_aload_n hx hb dX8_lay_52 rfl (lv_at hl 0 rfl) ?_
              refine va_get (D := D) (ci := 8) (v := .ref mI) (C := RX8) (T := TX8) (N := 31) hx hb hts iX8_lay_X8 hown hK hP 2 rfl rfl 14 (by decide) (hts (.fieldLink RX8 13 "TapeCalculatorModel" "item" "[J") (List.mem_of_getElem? (i := 5) rfl)) (fun _ h9 => h9) rfl dX8_lay_53 ?_
              refine lv_sipush (v := 300) hx hb dX8_lay_56 (by decide) ?_
              refine lv_iload_n hx hb dX8_lay_59 rfl (lv_at hl 1 rfl) ?_
              refine lv_imul hx hb dX8_lay_60 ?_
              refine lv_topi (fun x_72 ex_72 => ?_)
              obtain rfl : x_72 = 900 := ex_72.trans (by decide)
              refine lv_aload_n hx hb dX8_lay_61 rfl (lv_at hl 0 rfl) ?_
              refine va_get (D := D) (ci := 8) (v := .ref mJ) (C := RX8) (T := TX8) (N := 31) hx hb hts iX8_lay_X8 hown hK hP 2 rfl rfl 15 (by decide) (hts (.fieldLink RX8 17 "TapeCalculatorModel" "items" "[I") (List.mem_of_getElem? (i := 4) rfl)) (fun _ h9 => h9) rfl dX8_lay_62 ?_
              refine lv_iload_n hx hb dX8_lay_65 rfl (lv_at hl 1 rfl) ?_
              refine va_iald hx hb hK hP 1 0 rfl rfl (vp_in_iff.mpr (by decide)) dX8_lay_66 ?_
              refine lv_iadd hx hb dX8_lay_67 ?_
              refine lv_topi (fun x_73 ex_73 => ?_)
              obtain rfl : x_73 = 900 := ex_73.trans (by decide)
              refine lv_lload_n hx hb dX8_lay_68 rfl (lv_at hl 2 rfl) ?_
              refine va_last hx hb hK hP hD hS 0 1 rfl rfl (vp_in_iff.mpr (by decide)) dX8_lay_69 (fun H locs hP hD hS => ?_)
              have hP : va_P D vwCl [(mI, .inl (cL, 1200, .inr (.inl (vp_updL (fun _ => 0) (900 : Int32).toNatClampNeg v)))), (mJ, .inl (cI, 4, .inl (fun _ => 0))), (m0, .inr (8, [.ref mH, .int 0, .long 0, .int 0, .long 0, .int 0, .int 0, .int 0, .int 0, .int 0, .int 0, .long 0, .int 0, .int 0, .ref mI, .ref mJ, .ref mS, .ref mD, .int 0, .int 0, .int 0, .long 0, .ref mX, .int 0, .int 0, .int 0, .ref mA, .ref mB, .ref mW, .ref mL, .int 0]))] H := hP
              have hD : va_D A [(mI, .inl (cL, 1200, .inr (.inl (vp_updL (fun _ => 0) (900 : Int32).toNatClampNeg v)))), (mJ, .inl (cI, 4, .inl (fun _ => 0))), (m0, .inr (8, [.ref mH, .int 0, .long 0, .int 0, .long 0, .int 0, .int 0, .int 0, .int 0, .int 0, .int 0, .long 0, .int 0, .int 0, .ref mI, .ref mJ, .ref mS, .ref mD, .int 0, .int 0, .int 0, .long 0, .ref mX, .int 0, .int 0, .int 0, .ref mA, .ref mB, .ref mW, .ref mL, .int 0]))] := hD
              refine lv_aload_n hx hb dX8_lay_70 rfl (lv_at hl 0 rfl) ?_
              refine va_get (D := D) (ci := 8) (v := .ref mJ) (C := RX8) (T := TX8) (N := 31) hx hb hts iX8_lay_X8 hown hK hP 2 rfl rfl 15 (by decide) (hts (.fieldLink RX8 17 "TapeCalculatorModel" "items" "[I") (List.mem_of_getElem? (i := 4) rfl)) (fun _ h9 => h9) rfl dX8_lay_71 ?_
              refine lv_iload_n hx hb dX8_lay_74 rfl (lv_at hl 1 rfl) ?_
              refine lv_dup2_11 hx hb dX8_lay_75 rfl rfl ?_
              refine va_iald hx hb hK hP 1 0 rfl rfl (vp_in_iff.mpr (by decide)) dX8_lay_76 ?_
              refine lv_iconst (v := 1) hx hb dX8_lay_77 (by decide) ?_
              refine lv_iadd hx hb dX8_lay_78 ?_
              refine lv_topi (fun x_74 ex_74 => ?_)
              obtain rfl : x_74 = 1 := ex_74.trans (by decide)
              refine va_iast hx hb hK hP hD hS 1 0 rfl rfl (vp_in_iff.mpr (by decide)) dX8_lay_79 (fun H locs hP hD hS => ?_)
              have hP : va_P D vwCl [(mI, .inl (cL, 1200, .inr (.inl (vp_updL (fun _ => 0) (900 : Int32).toNatClampNeg v)))), (mJ, .inl (cI, 4, .inl (upd (fun _ => 0) (3 : Int32).toNatClampNeg 1))), (m0, .inr (8, [.ref mH, .int 0, .long 0, .int 0, .long 0, .int 0, .int 0, .int 0, .int 0, .int 0, .int 0, .long 0, .int 0, .int 0, .ref mI, .ref mJ, .ref mS, .ref mD, .int 0, .int 0, .int 0, .long 0, .ref mX, .int 0, .int 0, .int 0, .ref mA, .ref mB, .ref mW, .ref mL, .int 0]))] H := hP
              have hD : va_D A [(mI, .inl (cL, 1200, .inr (.inl (vp_updL (fun _ => 0) (900 : Int32).toNatClampNeg v)))), (mJ, .inl (cI, 4, .inl (upd (fun _ => 0) (3 : Int32).toNatClampNeg 1))), (m0, .inr (8, [.ref mH, .int 0, .long 0, .int 0, .long 0, .int 0, .int 0, .int 0, .int 0, .int 0, .int 0, .long 0, .int 0, .int 0, .ref mI, .ref mJ, .ref mS, .ref mD, .int 0, .int 0, .int 0, .long 0, .ref mX, .int 0, .int 0, .int 0, .ref mA, .ref mB, .ref mW, .ref mL, .int 0]))] := hD
              refine lv_aload_n hx hb dX8_lay_80 rfl (lv_at hl 0 rfl) ?_
              refine va_get (D := D) (ci := 8) (v := .ref mJ) (C := RX8) (T := TX8) (N := 31) hx hb hts iX8_lay_X8 hown hK hP 2 rfl rfl 15 (by decide) (hts (.fieldLink RX8 17 "TapeCalculatorModel" "items" "[I") (List.mem_of_getElem? (i := 4) rfl)) (fun _ h9 => h9) rfl dX8_lay_81 ?_
              refine lv_iload_n hx hb dX8_lay_84 rfl (lv_at hl 1 rfl) ?_
              refine va_iald hx hb hK hP 1 0 rfl rfl (vp_in_iff.mpr (by decide)) dX8_lay_85 ?_
              refine kIret (u := ((vp_updL (fun _ => 0) (900 : Int32).toNatClampNeg v), (upd (fun _ => 0) (3 : Int32).toNatClampNeg 1))) hx hb hr rfl hlocks hS dX8_lay_86 ?_ (hP.sub [2, 0, 1] rfl) (hD.sub [2, 0, 1] (by decide) rfl)
              first
                | exact (kif_t ⟨by decide, by omega⟩).symm
                | exact (kif_t (by omega)).symm
                | exact (kif_f (by omega)).symm
                | exact (kif_f (fun h => absurd h.2 (by omega))).symm
            · exact absurd c_46_70 (by decide)
          · have t_32_69 := c_32_69
            try simp only [kb_eq0, kb_ne0, lg_cmp_lt, lg_cmp_le, lg_cmp_gt, lg_cmp_ge, lg_cmp_eq] at t_32_69
            try simp only [Int32.lt_iff_toInt_lt, Int32.le_iff_toInt_le, ← Int32.toInt_inj, Int64.lt_iff_toInt_lt, Int64.le_iff_toInt_le, ← Int64.toInt_inj, Int32.toInt_toInt64, Int32.reduceToInt, Int64.reduceToInt] at t_32_69
            refine lv_iconst (v := (-1)) hx hb dX8_lay_35 (by decide) ?_
            refine kIret (u := ((fun _ => 0), (fun _ => 0))) hx hb hr rfl hlocks hS dX8_lay_36 ?_ (hP.sub [2, 0, 1] rfl) (hD.sub [2, 0, 1] (by decide) rfl)
            first
              | exact (kif_t ⟨by decide, by omega⟩).symm
              | exact (kif_t (by omega)).symm
              | exact (kif_f (by omega)).symm
              | exact (kif_f (fun h => absurd h.2 (by omega))).symm
set_option maxRecDepth 100000 in
theorem iX8_stands_X8 : ∀ w ∈ wsX80, w ∈ wsX8_stands := fun w h => (goodIn_r (big := wsX8_stands) wsX80 [11, 12, 13, 14, 15, 16, 17, 18, 19, 20, 21, 22, 23, 24, 25, 26, 27, 28, 29, 30, 31, 32, 33, 34, 35, 36, 37, 38, 39, 40, 41] rfl (by decide +kernel) w h).1
set_option maxRecDepth 100000 in
set_option maxHeartbeats 4000000 in
theorem r_stands (l : Launch) (D : va_G) (cI cL cB cZ cT : ClassId) (sz : Nat) (m0 mH mI mJ mS mD mX mA mB mW mL : Nat) (tt : Int32) : kM (S := Unit) l yX8_stands wsX8_stands ({ frames := 2, cells := 0, slots := 0, locals := 46 }) D (kT cI cL cB cZ cT) [.ref m0, .int tt] [(m0, .inr (8, [.ref mH, .int 0, .long 0, .int 0, .long 0, .int 0, .int 0, .int 0, .int 0, .int 0, .int 0, .long 0, .int 0, .int 0, .ref mI, .ref mJ, .ref mS, .ref mD, .int 0, .int 0, .int 0, .long 0, .ref mX, .int 0, .int 0, .int 0, .ref mA, .ref mB, .ref mW, .ref mL, .int 0])), (mS, .inl (cI, 4, .inl (fun _ => 0)))] sz eI (fun r _ => r = (kif (0 ≤ tt.toInt ∧ tt.toInt ≤ 3) 0 (-1))) (fun _ => [(m0, .inr (8, [.ref mH, .int 0, .long 0, .int 0, .long 0, .int 0, .int 0, .int 0, .int 0, .int 0, .int 0, .long 0, .int 0, .int 0, .ref mI, .ref mJ, .ref mS, .ref mD, .int 0, .int 0, .int 0, .long 0, .ref mX, .int 0, .int 0, .int 0, .ref mA, .ref mB, .ref mW, .ref mL, .int 0])), (mS, .inl (cI, 4, .inl (fun _ => 0)))]) 0 0 := by
  refine kStart (cc := cX8_stands) (maxL := 2) (ret := (some .int)) (own := RX8) (by decide) rfl rfl (Nat.le_of_ble_eq_true rfl) ?_
  intro p e s m args below meth c A ls hx hb hr hml hown hts hlocks hnm hsz hA hG hP hD hS hl
  have hK := hG.1
  have hl : lv_has ls 2 [(0, .ref m0), (1, .int tt)] := hl
  refine lv_aload_n hx hb dX8_stands_0 rfl (lv_at hl 0 rfl) ?_
  refine lv_iload_n hx hb dX8_stands_1 rfl (lv_at hl 1 rfl) ?_
  refine kCallI (wr := [(mS, .inl (cI, 4, .inl (fun _ => 0)))]) (va_runV (As := [.int tt]) (rest := []) ⟨hx, hb, hml, hown, hts⟩ (r_isTape l D cI cL cB cZ cT _ m0 mH mI mJ mS mD mX mA mB mW mL tt) (cwV 1 hts gX8_stands_X8_isTape rfl rfl rfl (by decide +kernel) ⟨Nat.le_of_ble_eq_true rfl, Nat.le_of_ble_eq_true rfl⟩) (kPreV hG hP hD [0] rfl (by decide) 0 8 rfl rfl rfl) rfl rfl hl.1 rfl (lv_room (Nat.le_of_ble_eq_true rfl)) dX8_stands_2 ⟨Nat.le_of_ble_eq_true rfl, Nat.le_of_ble_eq_true rfl⟩) hA hP hD hS [0] [1] rfl rfl (by decide) (by decide) (fun r_1 u_r_1 H locs wr_1 hP hD hS => ?_)
  have hP : va_P D vwCl [(mS, .inl (cI, 4, .inl (fun _ => 0))), (m0, .inr (8, [.ref mH, .int 0, .long 0, .int 0, .long 0, .int 0, .int 0, .int 0, .int 0, .int 0, .int 0, .long 0, .int 0, .int 0, .ref mI, .ref mJ, .ref mS, .ref mD, .int 0, .int 0, .int 0, .long 0, .ref mX, .int 0, .int 0, .int 0, .ref mA, .ref mB, .ref mW, .ref mL, .int 0]))] H := hP
  have hD : va_D A [(mS, .inl (cI, 4, .inl (fun _ => 0))), (m0, .inr (8, [.ref mH, .int 0, .long 0, .int 0, .long 0, .int 0, .int 0, .int 0, .int 0, .int 0, .int 0, .long 0, .int 0, .int 0, .ref mI, .ref mJ, .ref mS, .ref mD, .int 0, .int 0, .int 0, .long 0, .ref mX, .int 0, .int 0, .int 0, .ref mA, .ref mB, .ref mW, .ref mL, .int 0]))] := hD
  try dsimp only at wr_1
  subst wr_1
  refine lv_if_eq (tgt := 17) hx hb dX8_stands_5 (by decide) (fun c_5_1 => ?_) (fun c_5_1 => ?_)
  · have t_5_1 := c_5_1
    try simp only [kb_eq0, kb_ne0, lg_cmp_lt, lg_cmp_le, lg_cmp_gt, lg_cmp_ge, lg_cmp_eq] at t_5_1
    try simp only [Int32.lt_iff_toInt_lt, Int32.le_iff_toInt_le, ← Int32.toInt_inj, Int64.lt_iff_toInt_lt, Int64.le_iff_toInt_le, ← Int64.toInt_inj, Int32.toInt_toInt64, Int32.reduceToInt, Int64.reduceToInt] at t_5_1
    refine lv_iconst (v := (-1)) hx hb dX8_stands_17 (by decide) ?_
    refine kIret (u := ()) hx hb hr rfl hlocks hS dX8_stands_18 ?_ (hP.sub [1, 0] rfl) (hD.sub [1, 0] (by decide) rfl)
    first
      | exact (kif_t (by omega)).symm
      | exact (kif_f (by omega)).symm
  · have t_5_1 := c_5_1
    try simp only [kb_eq0, kb_ne0, lg_cmp_lt, lg_cmp_le, lg_cmp_gt, lg_cmp_ge, lg_cmp_eq] at t_5_1
    try simp only [Int32.lt_iff_toInt_lt, Int32.le_iff_toInt_le, ← Int32.toInt_inj, Int64.lt_iff_toInt_lt, Int64.le_iff_toInt_le, ← Int64.toInt_inj, Int32.toInt_toInt64, Int32.reduceToInt, Int64.reduceToInt] at t_5_1
    refine lv_aload_n hx hb dX8_stands_8 rfl (lv_at hl 0 rfl) ?_
    refine va_get (D := D) (ci := 8) (v := .ref mS) (C := RX8) (T := TX8) (N := 31) hx hb hts iX8_stands_X8 hown hK hP 1 rfl rfl 16 (by decide) (hts (.fieldLink RX8 20 "TapeCalculatorModel" "stands" "[I") (List.mem_of_getElem? (i := 1) rfl)) (fun _ h9 => h9) rfl dX8_stands_9 ?_
    refine lv_iload_n hx hb dX8_stands_12 rfl (lv_at hl 1 rfl) ?_
    refine va_iald hx hb hK hP 0 0 rfl rfl (vp_in_iff.mpr (by omega)) dX8_stands_13 ?_
    refine lv_goto (tgt := 18) hx hb dX8_stands_14 (by decide) ?_
    refine kIret (u := ()) hx hb hr rfl hlocks hS dX8_stands_18 ?_ (hP.sub [1, 0] rfl) (hD.sub [1, 0] (by decide) rfl)
    first
      | exact (kif_t (by omega)).symm
      | exact (kif_f (by omega)).symm
set_option maxRecDepth 100000 in
theorem iX8_blank_X8 : ∀ w ∈ wsX80, w ∈ wsX8_blank := fun w h => (goodIn_r (big := wsX8_blank) wsX80 [14, 15, 16, 17, 18, 19, 20, 21, 22, 23, 24, 25, 26, 27, 28, 29, 30, 31, 32, 33, 34, 35, 36, 37, 38, 39, 40, 41, 42, 43, 44] rfl (by decide +kernel) w h).1
set_option maxRecDepth 100000 in
set_option maxHeartbeats 4000000 in
theorem r_blank (l : Launch) (D : va_G) (cI cL cB cZ cT : ClassId) (sz : Nat) (m0 mH mI mJ mS mD mX mA mB mW mL : Nat) (tt : Int32) : kM (S := ((Nat → Int32) × (Nat → Int32))) l yX8_blank wsX8_blank ({ frames := 2, cells := 0, slots := 0, locals := 46 }) D (kT cI cL cB cZ cT) [.ref m0, .int tt] [(m0, .inr (8, [.ref mH, .int 0, .long 0, .int 0, .long 0, .int 0, .int 0, .int 0, .int 0, .int 0, .int 0, .long 0, .int 0, .int 0, .ref mI, .ref mJ, .ref mS, .ref mD, .int 0, .int 0, .int 0, .long 0, .ref mX, .int 0, .int 0, .int 0, .ref mA, .ref mB, .ref mW, .ref mL, .int 0])), (mJ, .inl (cI, 4, .inl (fun _ => 0))), (mS, .inl (cI, 4, .inl (fun _ => 0)))] sz eI (fun r _ => r = (kif (0 ≤ tt.toInt ∧ tt.toInt ≤ 3) 0 (-1))) (fun u => [(m0, .inr (8, [.ref mH, .int 0, .long 0, .int 0, .long 0, .int 0, .int 0, .int 0, .int 0, .int 0, .int 0, .long 0, .int 0, .int 0, .ref mI, .ref mJ, .ref mS, .ref mD, .int 0, .int 0, .int 0, .long 0, .ref mX, .int 0, .int 0, .int 0, .ref mA, .ref mB, .ref mW, .ref mL, .int 0])), (mJ, .inl (cI, 4, .inl u.1)), (mS, .inl (cI, 4, .inl u.2))]) 0 0 := by
  refine kStart (cc := cX8_blank) (maxL := 3) (ret := (some .int)) (own := RX8) (by decide) rfl rfl (Nat.le_of_ble_eq_true rfl) ?_
  intro p e s m args below meth c A ls hx hb hr hml hown hts hlocks hnm hsz hA hG hP hD hS hl
  have hK := hG.1
  have hl : lv_has ls 3 [(0, .ref m0), (1, .int tt)] := hl
  refine lv_aload_n hx hb dX8_blank_0 rfl (lv_at hl 0 rfl) ?_
  refine lv_iload_n hx hb dX8_blank_1 rfl (lv_at hl 1 rfl) ?_
  refine kCallI (wr := [(mJ, .inl (cI, 4, .inl (fun _ => 0))), (mS, .inl (cI, 4, .inl (fun _ => 0)))]) (va_runV (As := [.int tt]) (rest := []) ⟨hx, hb, hml, hown, hts⟩ (r_isTape l D cI cL cB cZ cT _ m0 mH mI mJ mS mD mX mA mB mW mL tt) (cwV 1 hts gX8_blank_X8_isTape rfl rfl rfl (by decide +kernel) ⟨Nat.le_of_ble_eq_true rfl, Nat.le_of_ble_eq_true rfl⟩) (kPreV hG hP hD [0] rfl (by decide) 0 8 rfl rfl rfl) rfl rfl hl.1 rfl (lv_room (Nat.le_of_ble_eq_true rfl)) dX8_blank_2 ⟨Nat.le_of_ble_eq_true rfl, Nat.le_of_ble_eq_true rfl⟩) hA hP hD hS [0] [1, 2] rfl rfl (by decide) (by decide) (fun r_1 u_r_1 H locs wr_1 hP hD hS => ?_)
  have hP : va_P D vwCl [(mJ, .inl (cI, 4, .inl (fun _ => 0))), (mS, .inl (cI, 4, .inl (fun _ => 0))), (m0, .inr (8, [.ref mH, .int 0, .long 0, .int 0, .long 0, .int 0, .int 0, .int 0, .int 0, .int 0, .int 0, .long 0, .int 0, .int 0, .ref mI, .ref mJ, .ref mS, .ref mD, .int 0, .int 0, .int 0, .long 0, .ref mX, .int 0, .int 0, .int 0, .ref mA, .ref mB, .ref mW, .ref mL, .int 0]))] H := hP
  have hD : va_D A [(mJ, .inl (cI, 4, .inl (fun _ => 0))), (mS, .inl (cI, 4, .inl (fun _ => 0))), (m0, .inr (8, [.ref mH, .int 0, .long 0, .int 0, .long 0, .int 0, .int 0, .int 0, .int 0, .int 0, .int 0, .long 0, .int 0, .int 0, .ref mI, .ref mJ, .ref mS, .ref mD, .int 0, .int 0, .int 0, .long 0, .ref mX, .int 0, .int 0, .int 0, .ref mA, .ref mB, .ref mW, .ref mL, .int 0]))] := hD
  try dsimp only at wr_1
  subst wr_1
  refine lv_if_ne (tgt := 10) hx hb dX8_blank_5 (by decide) (fun c_5_1 => ?_) (fun c_5_1 => ?_)
  · have t_5_1 := c_5_1
    try simp only [kb_eq0, kb_ne0, lg_cmp_lt, lg_cmp_le, lg_cmp_gt, lg_cmp_ge, lg_cmp_eq] at t_5_1
    try simp only [Int32.lt_iff_toInt_lt, Int32.le_iff_toInt_le, ← Int32.toInt_inj, Int64.lt_iff_toInt_lt, Int64.le_iff_toInt_le, ← Int64.toInt_inj, Int32.toInt_toInt64, Int32.reduceToInt, Int64.reduceToInt] at t_5_1
    refine lv_aload_n hx hb dX8_blank_10 rfl (lv_at hl 0 rfl) ?_
    refine va_get (D := D) (ci := 8) (v := .ref mJ) (C := RX8) (T := TX8) (N := 31) hx hb hts iX8_blank_X8 hown hK hP 2 rfl rfl 15 (by decide) (hts (.fieldLink RX8 17 "TapeCalculatorModel" "items" "[I") (List.mem_of_getElem? (i := 1) rfl)) (fun _ h9 => h9) rfl dX8_blank_11 ?_
    refine lv_iload_n hx hb dX8_blank_14 rfl (lv_at hl 1 rfl) ?_
    refine va_iald hx hb hK hP 0 0 rfl rfl (vp_in_iff.mpr (by omega)) dX8_blank_15 ?_
    refine lv_istore_n (lv' := [(2, .int 0), (0, .ref m0), (1, .int tt)]) hx hb dX8_blank_16 rfl hl (by decide) rfl (fun ls hl => ?_)
    refine lv_aload_n hx hb dX8_blank_17 rfl (lv_at hl 1 rfl) ?_
    refine va_get (D := D) (ci := 8) (v := .ref mJ) (C := RX8) (T := TX8) (N := 31) hx hb hts iX8_blank_X8 hown hK hP 2 rfl rfl 15 (by decide) (hts (.fieldLink RX8 17 "TapeCalculatorModel" "items" "[I") (List.mem_of_getElem? (i := 1) rfl)) (fun _ h9 => h9) rfl dX8_blank_18 ?_
    refine lv_iload_n hx hb dX8_blank_21 rfl (lv_at hl 2 rfl) ?_
    refine lv_iconst (v := 0) hx hb dX8_blank_22 (by decide) ?_
    refine va_iast hx hb hK hP hD hS 0 0 rfl rfl (vp_in_iff.mpr (by omega)) dX8_blank_23 (fun H locs hP hD hS => ?_)
    have hP : va_P D vwCl [(mJ, .inl (cI, 4, .inl (upd (fun _ => 0) tt.toNatClampNeg 0))), (mS, .inl (cI, 4, .inl (fun _ => 0))), (m0, .inr (8, [.ref mH, .int 0, .long 0, .int 0, .long 0, .int 0, .int 0, .int 0, .int 0, .int 0, .int 0, .long 0, .int 0, .int 0, .ref mI, .ref mJ, .ref mS, .ref mD, .int 0, .int 0, .int 0, .long 0, .ref mX, .int 0, .int 0, .int 0, .ref mA, .ref mB, .ref mW, .ref mL, .int 0]))] H := hP
    have hD : va_D A [(mJ, .inl (cI, 4, .inl (upd (fun _ => 0) tt.toNatClampNeg 0))), (mS, .inl (cI, 4, .inl (fun _ => 0))), (m0, .inr (8, [.ref mH, .int 0, .long 0, .int 0, .long 0, .int 0, .int 0, .int 0, .int 0, .int 0, .int 0, .long 0, .int 0, .int 0, .ref mI, .ref mJ, .ref mS, .ref mD, .int 0, .int 0, .int 0, .long 0, .ref mX, .int 0, .int 0, .int 0, .ref mA, .ref mB, .ref mW, .ref mL, .int 0]))] := hD
    refine lv_aload_n hx hb dX8_blank_24 rfl (lv_at hl 1 rfl) ?_
    refine va_get (D := D) (ci := 8) (v := .ref mS) (C := RX8) (T := TX8) (N := 31) hx hb hts iX8_blank_X8 hown hK hP 2 rfl rfl 16 (by decide) (hts (.fieldLink RX8 20 "TapeCalculatorModel" "stands" "[I") (List.mem_of_getElem? (i := 2) rfl)) (fun _ h9 => h9) rfl dX8_blank_25 ?_
    refine lv_iload_n hx hb dX8_blank_28 rfl (lv_at hl 2 rfl) ?_
    refine lv_iconst (v := 0) hx hb dX8_blank_29 (by decide) ?_
    refine va_iast hx hb hK hP hD hS 1 0 rfl rfl (vp_in_iff.mpr (by omega)) dX8_blank_30 (fun H locs hP hD hS => ?_)
    have hP : va_P D vwCl [(mJ, .inl (cI, 4, .inl (upd (fun _ => 0) tt.toNatClampNeg 0))), (mS, .inl (cI, 4, .inl (upd (fun _ => 0) tt.toNatClampNeg 0))), (m0, .inr (8, [.ref mH, .int 0, .long 0, .int 0, .long 0, .int 0, .int 0, .int 0, .int 0, .int 0, .int 0, .long 0, .int 0, .int 0, .ref mI, .ref mJ, .ref mS, .ref mD, .int 0, .int 0, .int 0, .long 0, .ref mX, .int 0, .int 0, .int 0, .ref mA, .ref mB, .ref mW, .ref mL, .int 0]))] H := hP
    have hD : va_D A [(mJ, .inl (cI, 4, .inl (upd (fun _ => 0) tt.toNatClampNeg 0))), (mS, .inl (cI, 4, .inl (upd (fun _ => 0) tt.toNatClampNeg 0))), (m0, .inr (8, [.ref mH, .int 0, .long 0, .int 0, .long 0, .int 0, .int 0, .int 0, .int 0, .int 0, .int 0, .long 0, .int 0, .int 0, .ref mI, .ref mJ, .ref mS, .ref mD, .int 0, .int 0, .int 0, .long 0, .ref mX, .int 0, .int 0, .int 0, .ref mA, .ref mB, .ref mW, .ref mL, .int 0]))] := hD
    refine lv_aload_n hx hb dX8_blank_31 rfl (lv_at hl 1 rfl) ?_
    refine lv_aload_n hx hb dX8_blank_32 rfl (lv_at hl 1 rfl) ?_
    refine va_get (D := D) (ci := 8) (v := .int 0) (C := RX8) (T := TX8) (N := 31) hx hb hts iX8_blank_X8 hown hK hP 2 rfl rfl 13 (by decide) (hts (.fieldLink RX8 115 "TapeCalculatorModel" "isWritten" "Z") (List.mem_of_getElem? (i := 3) rfl)) (fun _ h9 => h9) rfl dX8_blank_33 ?_
    refine lv_if_eq (tgt := 54) hx hb dX8_blank_36 (by decide) (fun c_36_2 => ?_) (fun c_36_2 => ?_)
    · have t_36_2 := c_36_2
      try simp only [kb_eq0, kb_ne0, lg_cmp_lt, lg_cmp_le, lg_cmp_gt, lg_cmp_ge, lg_cmp_eq] at t_36_2
      try simp only [Int32.lt_iff_toInt_lt, Int32.le_iff_toInt_le, ← Int32.toInt_inj, Int64.lt_iff_toInt_lt, Int64.le_iff_toInt_le, ← Int64.toInt_inj, Int32.toInt_toInt64, Int32.reduceToInt, Int64.reduceToInt] at t_36_2
      refine lv_iconst (v := 0) hx hb dX8_blank_54 (by decide) ?_
      refine va_put (D := D) (ci := 8) (v := .int 0) (ty := .boolean) (C := RX8) (T := TX8) (N := 31) hx hb hts iX8_blank_X8 tyX8 tyX8_ok nmX8 hown hK hP hD hS 2 rfl rfl 13 (by decide) (hts (.fieldLink RX8 115 "TapeCalculatorModel" "isWritten" "Z") (List.mem_of_getElem? (i := 3) rfl)) (fun _ h9 => h9) rfl (by decide +kernel) rfl rfl (Nat.le_of_ble_eq_true rfl) dX8_blank_55 (fun H locs hP hD hS => ?_)
      have hP : va_P D vwCl [(mJ, .inl (cI, 4, .inl (upd (fun _ => 0) tt.toNatClampNeg 0))), (mS, .inl (cI, 4, .inl (upd (fun _ => 0) tt.toNatClampNeg 0))), (m0, .inr (8, [.ref mH, .int 0, .long 0, .int 0, .long 0, .int 0, .int 0, .int 0, .int 0, .int 0, .int 0, .long 0, .int 0, .int 0, .ref mI, .ref mJ, .ref mS, .ref mD, .int 0, .int 0, .int 0, .long 0, .ref mX, .int 0, .int 0, .int 0, .ref mA, .ref mB, .ref mW, .ref mL, .int 0]))] H := hP
      have hD : va_D A [(mJ, .inl (cI, 4, .inl (upd (fun _ => 0) tt.toNatClampNeg 0))), (mS, .inl (cI, 4, .inl (upd (fun _ => 0) tt.toNatClampNeg 0))), (m0, .inr (8, [.ref mH, .int 0, .long 0, .int 0, .long 0, .int 0, .int 0, .int 0, .int 0, .int 0, .int 0, .long 0, .int 0, .int 0, .ref mI, .ref mJ, .ref mS, .ref mD, .int 0, .int 0, .int 0, .long 0, .ref mX, .int 0, .int 0, .int 0, .ref mA, .ref mB, .ref mW, .ref mL, .int 0]))] := hD
      refine lv_iload_n hx hb dX8_blank_58 rfl (lv_at hl 0 rfl) ?_
      refine kIret (u := ((upd (fun _ => 0) tt.toNatClampNeg 0), (upd (fun _ => 0) tt.toNatClampNeg 0))) hx hb hr rfl hlocks hS dX8_blank_59 ?_ (hP.sub [2, 0, 1] rfl) (hD.sub [2, 0, 1] (by decide) rfl)
      first
        | exact (kif_t (by omega)).symm
        | exact (kif_f (by omega)).symm
    · exact absurd (by decide) c_36_2
  · have t_5_1 := c_5_1
    try simp only [kb_eq0, kb_ne0, lg_cmp_lt, lg_cmp_le, lg_cmp_gt, lg_cmp_ge, lg_cmp_eq] at t_5_1
    try simp only [Int32.lt_iff_toInt_lt, Int32.le_iff_toInt_le, ← Int32.toInt_inj, Int64.lt_iff_toInt_lt, Int64.le_iff_toInt_le, ← Int64.toInt_inj, Int32.toInt_toInt64, Int32.reduceToInt, Int64.reduceToInt] at t_5_1
    refine lv_iconst (v := (-1)) hx hb dX8_blank_8 (by decide) ?_
    refine kIret (u := ((fun _ => 0), (fun _ => 0))) hx hb hr rfl hlocks hS dX8_blank_9 ?_ (hP.sub [2, 0, 1] rfl) (hD.sub [2, 0, 1] (by decide) rfl)
    first
      | exact (kif_t (by omega)).symm
      | exact (kif_f (by omega)).symm
set_option maxRecDepth 100000 in
theorem iX8_drum_X8 : ∀ w ∈ wsX80, w ∈ wsX8_drum := fun w h => (goodIn_r (big := wsX8_drum) wsX80 [8, 9, 10, 11, 12, 13, 14, 15, 16, 17, 18, 19, 20, 21, 22, 23, 24, 25, 26, 27, 28, 29, 30, 31, 32, 33, 34, 35, 36, 37, 38] rfl (by decide +kernel) w h).1
set_option maxRecDepth 100000 in
set_option maxHeartbeats 4000000 in
theorem r_drum (l : Launch) (D : va_G) (cI cL cB cZ cT : ClassId) (sz : Nat) (m0 mH mI mJ mS mD mX mA mB mW mL : Nat) (i : Int32) : kM (S := Unit) l yX8_drum wsX8_drum ({ frames := 1, cells := 0, slots := 0, locals := 25 }) D (kT cI cL cB cZ cT) [.ref m0, .int i] [(m0, .inr (8, [.ref mH, .int 0, .long 0, .int 0, .long 0, .int 0, .int 0, .int 0, .int 0, .int 0, .int 0, .long 0, .int 0, .int 0, .ref mI, .ref mJ, .ref mS, .ref mD, .int 0, .int 0, .int 0, .long 0, .ref mX, .int 0, .int 0, .int 0, .ref mA, .ref mB, .ref mW, .ref mL, .int 0])), (mD, .inl (cL, 256, .inr (.inl (fun _ => 0))))] sz eL (fun r _ => r = (kif (0 ≤ i.toInt ∧ i.toInt < 256) 0 (-1))) (fun _ => [(m0, .inr (8, [.ref mH, .int 0, .long 0, .int 0, .long 0, .int 0, .int 0, .int 0, .int 0, .int 0, .int 0, .long 0, .int 0, .int 0, .ref mI, .ref mJ, .ref mS, .ref mD, .int 0, .int 0, .int 0, .long 0, .ref mX, .int 0, .int 0, .int 0, .ref mA, .ref mB, .ref mW, .ref mL, .int 0])), (mD, .inl (cL, 256, .inr (.inl (fun _ => 0))))]) 0 0 := by
  refine kStart (cc := cX8_drum) (maxL := 2) (ret := (some .long)) (own := RX8) (by decide) rfl rfl (Nat.le_of_ble_eq_true rfl) ?_
  intro p e s m args below meth c A ls hx hb hr hml hown hts hlocks hnm hsz hA hG hP hD hS hl
  have hK := hG.1
  have hl : lv_has ls 2 [(0, .ref m0), (1, .int i)] := hl
  refine lv_iload_n hx hb dX8_drum_0 rfl (lv_at hl 1 rfl) ?_
  refine lv_i2l hx hb dX8_drum_1 rfl ?_
  refine lv_lconst (v := 0) hx hb dX8_drum_2 (by decide) ?_
  refine lv_ldc2 (v := 255) hx hb hown (hts (.constantLong RX8 118 (255)) (List.mem_of_getElem? (i := 1) rfl)) dX8_drum_3 ?_
  refine kCallI (wr := [(m0, .inr (8, [.ref mH, .int 0, .long 0, .int 0, .long 0, .int 0, .int 0, .int 0, .int 0, .int 0, .int 0, .long 0, .int 0, .int 0, .ref mI, .ref mJ, .ref mS, .ref mD, .int 0, .int 0, .int 0, .long 0, .ref mX, .int 0, .int 0, .int 0, .ref mA, .ref mB, .ref mW, .ref mL, .int 0])), (mD, .inl (cL, 256, .inr (.inl (fun _ => 0))))]) (va_runS (As := [.long i.toInt64, .long 0, .long 255]) (rest := []) ⟨hx, hb, hml, hown, hts⟩ (r_in l D cI cL cB cZ cT _ (i.toInt64) 0 255) (va_cwS 3 hts gX8_drum_X8_in rfl rfl rfl (by decide +kernel) ⟨Nat.le_of_ble_eq_true rfl, Nat.le_of_ble_eq_true rfl⟩) (kPreS hG hP hD [] rfl (by decide)) rfl rfl hl.1 rfl (lv_room (Nat.le_of_ble_eq_true rfl)) dX8_drum_6 ⟨Nat.le_of_ble_eq_true rfl, Nat.le_of_ble_eq_true rfl⟩) hA hP hD hS [] [0, 1] rfl rfl (by decide) (by decide) (fun r_1 u_r_1 H locs wr_1 hP hD hS => ?_)
  have hP : va_P D vwCl [(m0, .inr (8, [.ref mH, .int 0, .long 0, .int 0, .long 0, .int 0, .int 0, .int 0, .int 0, .int 0, .int 0, .long 0, .int 0, .int 0, .ref mI, .ref mJ, .ref mS, .ref mD, .int 0, .int 0, .int 0, .long 0, .ref mX, .int 0, .int 0, .int 0, .ref mA, .ref mB, .ref mW, .ref mL, .int 0])), (mD, .inl (cL, 256, .inr (.inl (fun _ => 0))))] H := hP
  have hD : va_D A [(m0, .inr (8, [.ref mH, .int 0, .long 0, .int 0, .long 0, .int 0, .int 0, .int 0, .int 0, .int 0, .int 0, .long 0, .int 0, .int 0, .ref mI, .ref mJ, .ref mS, .ref mD, .int 0, .int 0, .int 0, .long 0, .ref mX, .int 0, .int 0, .int 0, .ref mA, .ref mB, .ref mW, .ref mL, .int 0])), (mD, .inl (cL, 256, .inr (.inl (fun _ => 0))))] := hD
  try dsimp only at wr_1
  subst wr_1
  refine lv_if_eq (tgt := 21) hx hb dX8_drum_9 (by decide) (fun c_9_1 => ?_) (fun c_9_1 => ?_)
  · have t_9_1 := c_9_1
    try simp only [kb_eq0, kb_ne0, lg_cmp_lt, lg_cmp_le, lg_cmp_gt, lg_cmp_ge, lg_cmp_eq] at t_9_1
    try simp only [Int32.lt_iff_toInt_lt, Int32.le_iff_toInt_le, ← Int32.toInt_inj, Int64.lt_iff_toInt_lt, Int64.le_iff_toInt_le, ← Int64.toInt_inj, Int32.toInt_toInt64, Int32.reduceToInt, Int64.reduceToInt] at t_9_1
    refine lv_ldc2 (v := (-1)) hx hb hown (hts (.constantLong RX8 59 (-1)) (List.mem_of_getElem? (i := 3) rfl)) dX8_drum_21 ?_
    refine kLret (u := ()) hx hb hr hlocks hS dX8_drum_24 ?_ (hP.sub [0, 1] rfl) (hD.sub [0, 1] (by decide) rfl)
    first
      | exact (kif_t (by omega)).symm
      | exact (kif_f (by omega)).symm
  · have t_9_1 := c_9_1
    try simp only [kb_eq0, kb_ne0, lg_cmp_lt, lg_cmp_le, lg_cmp_gt, lg_cmp_ge, lg_cmp_eq] at t_9_1
    try simp only [Int32.lt_iff_toInt_lt, Int32.le_iff_toInt_le, ← Int32.toInt_inj, Int64.lt_iff_toInt_lt, Int64.le_iff_toInt_le, ← Int64.toInt_inj, Int32.toInt_toInt64, Int32.reduceToInt, Int64.reduceToInt] at t_9_1
    refine lv_aload_n hx hb dX8_drum_12 rfl (lv_at hl 0 rfl) ?_
    refine va_get (D := D) (ci := 8) (v := .ref mD) (C := RX8) (T := TX8) (N := 31) hx hb hts iX8_drum_X8 hown hK hP 0 rfl rfl 17 (by decide) (hts (.fieldLink RX8 23 "TapeCalculatorModel" "drum" "[J") (List.mem_of_getElem? (i := 2) rfl)) (fun _ h9 => h9) rfl dX8_drum_13 ?_
    refine lv_iload_n hx hb dX8_drum_16 rfl (lv_at hl 1 rfl) ?_
    refine va_lald hx hb hK hP 1 1 rfl rfl (vp_in_iff.mpr (by omega)) dX8_drum_17 ?_
    refine lv_goto (tgt := 24) hx hb dX8_drum_18 (by decide) ?_
    refine kLret (u := ()) hx hb hr hlocks hS dX8_drum_24 ?_ (hP.sub [0, 1] rfl) (hD.sub [0, 1] (by decide) rfl)
    first
      | exact (kif_t (by omega)).symm
      | exact (kif_f (by omega)).symm
