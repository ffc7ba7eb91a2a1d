set_option maxRecDepth 100000 in
set_option maxHeartbeats 4000000 in
theorem r_in (l : Launch) (D : va_G) (cI cL cB cZ cT : ClassId) (sz : Nat) (v lo hi : Int64) : kM (S := Unit) l yX8_in wsX8_in ({ frames := 0, cells := 0, slots := 0, locals := 0 }) D (kT cI cL cB cZ cT) [.long v, .long lo, .long hi] [] sz eI (fun r _ => r = (kb (lo.toInt ≤ v.toInt ∧ v.toInt ≤ hi.toInt))) (fun _ => []) 0 0 := by
  refine kStart (cc := cX8_in) (maxL := 6) (ret := (some .boolean)) (own := RX8) (by decide) rfl rfl (Nat.le_of_ble_eq_true rfl) ?_
  intro p e s m args below meth c A ls hx hb hr hml hown hts hlocks hnm hsz hA hG hP hD hS hl
  have hK := hG.1
  have hl : lv_has ls 6 [(0, .long v), (2, .long lo), (4, .long hi)] := hl
  refine lv_lload_n hx hb dX8_in_0 rfl (lv_at hl 0 rfl) ?_
  refine lv_lload_n hx hb dX8_in_1 rfl (lv_at hl 1 rfl) ?_
  refine W.lcmp hx hb dX8_in_2 ?_
  refine lv_if_lt (tgt := 17) hx hb dX8_in_3 (by decide) (fun c_3_0 => ?_) (fun c_3_0 => ?_)
  · have t_3_0 := c_3_0
    try simp only [kb_eq0, kb_ne0, lg_cmp_lt, lg_cmp_le, lg_cmp_gt, lg_cmp_ge, lg_cmp_eq] at t_3_0
    try simp only [Int32.lt_iff_toInt_lt, Int32.le_iff_toInt_le, ← Int32.toInt_inj, Int64.lt_iff_toInt_lt, Int64.le_iff_toInt_le, ← Int64.toInt_inj, Int32.toInt_toInt64, Int32.reduceToInt, Int64.reduceToInt] at t_3_0
    refine lv_iconst (v := 0) hx hb dX8_in_17 (by decide) ?_
    refine kIret (u := ()) hx hb hr rfl hlocks hS dX8_in_18 ?_ (hP.sub [] rfl) (hD.sub [] (by decide) rfl)
    first
      | exact (kb_t (by omega)).symm
      | exact (kb_f (by omega)).symm
  · have t_3_0 := c_3_0
    try simp only [kb_eq0, kb_ne0, lg_cmp_lt, lg_cmp_le, lg_cmp_gt, lg_cmp_ge, lg_cmp_eq] at t_3_0
    try simp only [Int32.lt_iff_toInt_lt, Int32.le_iff_toInt_le, ← Int32.toInt_inj, Int64.lt_iff_toInt_lt, Int64.le_iff_toInt_le, ← Int64.toInt_inj, Int32.toInt_toInt64, Int32.reduceToInt, Int64.reduceToInt] at t_3_0
    refine lv_lload_n hx hb dX8_in_6 rfl (lv_at hl 0 rfl) ?_
    refine lv_lload hx hb dX8_in_7 (lv_at hl 2 rfl) ?_
    refine W.lcmp hx hb dX8_in_9 ?_
    refine lv_if_gt (tgt := 17) hx hb dX8_in_10 (by decide) (fun c_10_1 => ?_) (fun c_10_1 => ?_)
    · have t_10_1 := c_10_1
      try simp only [kb_eq0, kb_ne0, lg_cmp_lt, lg_cmp_le, lg_cmp_gt, lg_cmp_ge, lg_cmp_eq] at t_10_1
      try simp only [Int32.lt_iff_toInt_lt, Int32.le_iff_toInt_le, ← Int32.toInt_inj, Int64.lt_iff_toInt_lt, Int64.le_iff_toInt_le, ← Int64.toInt_inj, Int32.toInt_toInt64, Int32.reduceToInt, Int64.reduceToInt] at t_10_1
      refine lv_iconst (v := 0) hx hb dX8_in_17 (by decide) ?_
      refine kIret (u := ()) hx hb hr rfl hlocks hS dX8_in_18 ?_ (hP.sub [] rfl) (hD.sub [] (by decide) rfl)
      first
        | exact (kb_t (by omega)).symm
        | exact (kb_f (by omega)).symm
    · have t_10_1 := c_10_1
      try simp only [kb_eq0, kb_ne0, lg_cmp_lt, lg_cmp_le, lg_cmp_gt, lg_cmp_ge, lg_cmp_eq] at t_10_1
      try simp only [Int32.lt_iff_toInt_lt, Int32.le_iff_toInt_le, ← Int32.toInt_inj, Int64.lt_iff_toInt_lt, Int64.le_iff_toInt_le, ← Int64.toInt_inj, Int32.toInt_toInt64, Int32.reduceToInt, Int64.reduceToInt] at t_10_1
      refine lv_iconst (v := 1) hx hb dX8_in_13 (by decide) ?_
      refine lv_goto (tgt := 18) hx hb dX8_in_14 (by decide) ?_
      refine kIret (u := ()) hx hb hr rfl hlocks hS dX8_in_18 ?_ (hP.sub [] rfl) (hD.sub [] (by decide) rfl)
      first
        | exact (kb_t (by omega)).symm
        | exact (kb_f (by omega)).symm
set_option maxRecDepth 100000 in
theorem iX8_half_X8 : ∀ w ∈ wsX80, w ∈ wsX8_half := fun w h => (goodIn_r (big := wsX8_half) wsX80 [7, 8, 9, 10, 11, 12, 13, 14, 15, 16, 17, 18, 19, 20, 21, 22, 23, 24, 25, 26, 27, 28, 29, 30, 31, 32, 33, 34, 35, 36, 37] rfl (by decide +kernel) w h).1
set_option maxRecDepth 100000 in
set_option maxHeartbeats 4000000 in
theorem r_half (l : Launch) (D : va_G) (cI cL cB cZ cT : ClassId) (sz : Nat) (m0 mH mI mJ mS mD mX mA mB mW mL : Nat) (n : Int32) : kM (S := Unit) l yX8_half wsX8_half ({ frames := 1, cells := 0, slots := 0, locals := 25 }) D (kT cI cL cB cZ cT) [.ref m0, .int n] [(m0, .inr (8, [.ref mH, .int 0, .long 0, .int 0, .long 0, .int 0, .int 0, .int 0, .int 0, .int 0, .int 0, .long 0, .int 0, .int 0, .ref mI, .ref mJ, .ref mS, .ref mD, .int 0, .int 0, .int 0, .long 0, .ref mX, .int 0, .int 0, .int 0, .ref mA, .ref mB, .ref mW, .ref mL, .int 0])), (mH, .inl (cI, 512, .inl (fun _ => 0)))] sz eI (fun r _ => r = (kif (0 ≤ n.toInt ∧ n.toInt < 512) 0 (-1))) (fun _ => [(m0, .inr (8, [.ref mH, .int 0, .long 0, .int 0, .long 0, .int 0, .int 0, .int 0, .int 0, .int 0, .int 0, .long 0, .int 0, .int 0, .ref mI, .ref mJ, .ref mS, .ref mD, .int 0, .int 0, .int 0, .long 0, .ref mX, .int 0, .int 0, .int 0, .ref mA, .ref mB, .ref mW, .ref mL, .int 0])), (mH, .inl (cI, 512, .inl (fun _ => 0)))]) 0 0 := by
  refine kStart (cc := cX8_half) (maxL := 2) (ret := (some .int)) (own := RX8) (by decide) rfl rfl (Nat.le_of_ble_eq_true rfl) ?_
  intro p e s m args below meth c A ls hx hb hr hml hown hts hlocks hnm hsz hA hG hP hD hS hl
  have hK := hG.1
  have hl : lv_has ls 2 [(0, .ref m0), (1, .int n)] := hl
  refine lv_iload_n hx hb dX8_half_0 rfl (lv_at hl 1 rfl) ?_
  refine lv_i2l hx hb dX8_half_1 rfl ?_
  refine lv_lconst (v := 0) hx hb dX8_half_2 (by decide) ?_
  refine lv_ldc2 (v := 511) hx hb hown (hts (.constantLong RX8 47 (511)) (List.mem_of_getElem? (i := 1) rfl)) dX8_half_3 ?_
  refine kCallI (wr := [(m0, .inr (8, [.ref mH, .int 0, .long 0, .int 0, .long 0, .int 0, .int 0, .int 0, .int 0, .int 0, .int 0, .long 0, .int 0, .int 0, .ref mI, .ref mJ, .ref mS, .ref mD, .int 0, .int 0, .int 0, .long 0, .ref mX, .int 0, .int 0, .int 0, .ref mA, .ref mB, .ref mW, .ref mL, .int 0])), (mH, .inl (cI, 512, .inl (fun _ => 0)))]) (va_runS (As := [.long n.toInt64, .long 0, .long 511]) (rest := []) ⟨hx, hb, hml, hown, hts⟩ (r_in l D cI cL cB cZ cT _ (n.toInt64) 0 511) (va_cwS 3 hts gX8_half_X8_in rfl rfl rfl (by decide +kernel) ⟨Nat.le_of_ble_eq_true rfl, Nat.le_of_ble_eq_true rfl⟩) (kPreS hG hP hD [] rfl (by decide)) rfl rfl hl.1 rfl (lv_room (Nat.le_of_ble_eq_true rfl)) dX8_half_6 ⟨Nat.le_of_ble_eq_true rfl, Nat.le_of_ble_eq_true rfl⟩) hA hP hD hS [] [0, 1] rfl rfl (by decide) (by decide) (fun r_1 u_r_1 H locs wr_1 hP hD hS => ?_)
  have hP : va_P D vwCl [(m0, .inr (8, [.ref mH, .int 0, .long 0, .int 0, .long 0, .int 0, .int 0, .int 0, .int 0, .int 0, .int 0, .long 0, .int 0, .int 0, .ref mI, .ref mJ, .ref mS, .ref mD, .int 0, .int 0, .int 0, .long 0, .ref mX, .int 0, .int 0, .int 0, .ref mA, .ref mB, .ref mW, .ref mL, .int 0])), (mH, .inl (cI, 512, .inl (fun _ => 0)))] H := hP
  have hD : va_D A [(m0, .inr (8, [.ref mH, .int 0, .long 0, .int 0, .long 0, .int 0, .int 0, .int 0, .int 0, .int 0, .int 0, .long 0, .int 0, .int 0, .ref mI, .ref mJ, .ref mS, .ref mD, .int 0, .int 0, .int 0, .long 0, .ref mX, .int 0, .int 0, .int 0, .ref mA, .ref mB, .ref mW, .ref mL, .int 0])), (mH, .inl (cI, 512, .inl (fun _ => 0)))] := hD
  try dsimp only at wr_1
  subst wr_1
  refine lv_if_eq (tgt := 21) hx hb dX8_half_9 (by decide) (fun c_9_1 => ?_) (fun c_9_1 => ?_)
  · have t_9_1 := c_9_1
    try simp only [kb_eq0, kb_ne0, lg_cmp_lt, lg_cmp_le, lg_cmp_gt, lg_cmp_ge, lg_cmp_eq] at t_9_1
    try simp only [Int32.lt_iff_toInt_lt, Int32.le_iff_toInt_le, ← Int32.toInt_inj, Int64.lt_iff_toInt_lt, Int64.le_iff_toInt_le, ← Int64.toInt_inj, Int32.toInt_toInt64, Int32.reduceToInt, Int64.reduceToInt] at t_9_1
    refine lv_iconst (v := (-1)) hx hb dX8_half_21 (by decide) ?_
    refine kIret (u := ()) hx hb hr rfl hlocks hS dX8_half_22 ?_ (hP.sub [0, 1] rfl) (hD.sub [0, 1] (by decide) rfl)
    first
      | exact (kif_t (by omega)).symm
      | exact (kif_f (by omega)).symm
  · have t_9_1 := c_9_1
    try simp only [kb_eq0, kb_ne0, lg_cmp_lt, lg_cmp_le, lg_cmp_gt, lg_cmp_ge, lg_cmp_eq] at t_9_1
    try simp only [Int32.lt_iff_toInt_lt, Int32.le_iff_toInt_le, ← Int32.toInt_inj, Int64.lt_iff_toInt_lt, Int64.le_iff_toInt_le, ← Int64.toInt_inj, Int32.toInt_toInt64, Int32.reduceToInt, Int64.reduceToInt] at t_9_1
    refine lv_aload_n hx hb dX8_half_12 rfl (lv_at hl 0 rfl) ?_
    refine va_get (D := D) (ci := 8) (v := .ref mH) (C := RX8) (T := TX8) (N := 31) hx hb hts iX8_half_X8 hown hK hP 0 rfl rfl 0 (by decide) (hts (.fieldLink RX8 7 "TapeCalculatorModel" "half" "[I") (List.mem_of_getElem? (i := 2) rfl)) (fun _ h9 => h9) rfl dX8_half_13 ?_
    refine lv_iload_n hx hb dX8_half_16 rfl (lv_at hl 1 rfl) ?_
    refine va_iald hx hb hK hP 1 0 rfl rfl (vp_in_iff.mpr (by omega)) dX8_half_17 ?_
    refine lv_goto (tgt := 22) hx hb dX8_half_18 (by decide) ?_
    refine kIret (u := ()) hx hb hr rfl hlocks hS dX8_half_22 ?_ (hP.sub [0, 1] rfl) (hD.sub [0, 1] (by decide) rfl)
    first
      | exact (kif_t (by omega)).symm
      | exact (kif_f (by omega)).symm
set_option maxRecDepth 100000 in
theorem iX8_put_X8 : ∀ w ∈ wsX80, w ∈ wsX8_put := fun w h => (goodIn_r (big := wsX8_put) wsX80 [8, 9, 10, 11, 12, 13, 14, 15, 16, 17, 18, 19, 20, 21, 22, 23, 24, 25, 26, 27, 28, 29, 30, 31, 32, 33, 34, 35, 36, 37, 38] rfl (by decide +kernel) w h).1
set_option maxRecDepth 100000 in
set_option maxHeartbeats 4000000 in
theorem r_put (l : Launch) (D : va_G) (cI cL cB cZ cT : ClassId) (sz : Nat) (m0 mH mI mJ mS mD mX mA mB mW mL : Nat) (n b : Int32) : kM (S := ((Nat → Int32))) l yX8_put wsX8_put ({ frames := 1, cells := 0, slots := 0, locals := 25 }) D (kT cI cL cB cZ cT) [.ref m0, .int n, .int b] [(m0, .inr (8, [.ref mH, .int 0, .long 0, .int 0, .long 0, .int 0, .int 0, .int 0, .int 0, .int 0, .int 0, .long 0, .int 0, .int 0, .ref mI, .ref mJ, .ref mS, .ref mD, .int 0, .int 0, .int 0, .long 0, .ref mX, .int 0, .int 0, .int 0, .ref mA, .ref mB, .ref mW, .ref mL, .int 0])), (mH, .inl (cI, 512, .inl (fun _ => 0)))] sz eI (fun r _ => r = (kif ((0 ≤ n.toInt ∧ n.toInt < 512) ∧ 0 ≤ b.toInt ∧ b.toInt ≤ 262143) 0 (-1))) (fun u => [(m0, .inr (8, [.ref mH, .int 0, .long 0, .int 0, .long 0, .int 0, .int 0, .int 0, .int 0, .int 0, .int 0, .long 0, .int 0, .int 0, .ref mI, .ref mJ, .ref mS, .ref mD, .int 0, .int 0, .int 0, .long 0, .ref mX, .int 0, .int 0, .int 0, .ref mA, .ref mB, .ref mW, .ref mL, .int 0])), (mH, .inl (cI, 512, .inl u))]) 0 0 := by
  refine kStart (cc := cX8_put) (maxL := 4) (ret := (some .int)) (own := RX8) (by decide) rfl rfl (Nat.le_of_ble_eq_true rfl) ?_
  intro p e s m args below meth c A ls hx hb hr hml hown hts hlocks hnm hsz hA hG hP hD hS hl
  have hK := hG.1
  have hl : lv_has ls 4 [(0, .ref m0), (1, .int n), (2, .int b)] := hl
  refine lv_iload_n hx hb dX8_put_0 rfl (lv_at hl 1 rfl) ?_
  refine lv_i2l hx hb dX8_put_1 rfl ?_
  refine lv_lconst (v := 0) hx hb dX8_put_2 (by decide) ?_
  refine lv_ldc2 (v := 511) hx hb hown (hts (.constantLong RX8 47 (511)) (List.mem_of_getElem? (i := 1) rfl)) dX8_put_3 ?_
  refine kCallI (wr := [(m0, .inr (8, [.ref mH, .int 0, .long 0, .int 0, .long 0, .int 0, .int 0, .int 0, .int 0, .int 0, .int 0, .long 0, .int 0, .int 0, .ref mI, .ref mJ, .ref mS, .ref mD, .int 0, .int 0, .int 0, .long 0, .ref mX, .int 0, .int 0, .int 0, .ref mA, .ref mB, .ref mW, .ref mL, .int 0])), (mH, .inl (cI, 512, .inl (fun _ => 0)))]) (va_runS (As := [.long n.toInt64, .long 0, .long 511]) (rest := []) ⟨hx, hb, hml, hown, hts⟩ (r_in l D cI cL cB cZ cT _ (n.toInt64) 0 511) (va_cwS 3 hts gX8_put_X8_in rfl rfl rfl (by decide +kernel) ⟨Nat.le_of_ble_eq_true rfl, Nat.le_of_ble_eq_true rfl⟩) (kPreS hG hP hD [] rfl (by decide)) rfl rfl hl.1 rfl (lv_room (Nat.le_of_ble_eq_true rfl)) dX8_put_6 ⟨Nat.le_of_ble_eq_true rfl, Nat.le_of_ble_eq_true rfl⟩) hA hP hD hS [] [0, 1] rfl rfl (by decide) (by decide) (fun r_1 u_r_1 H locs wr_1 hP hD hS => ?_)
  have hP : va_P D vwCl [(m0, .inr (8, [.ref mH, .int 0, .long 0, .int 0, .long 0, .int 0, .int 0, .int 0, .int 0, .int 0, .int 0, .long 0, .int 0, .int 0, .ref mI, .ref mJ, .ref mS, .ref mD, .int 0, .int 0, .int 0, .long 0, .ref mX, .int 0, .int 0, .int 0, .ref mA, .ref mB, .ref mW, .ref mL, .int 0])), (mH, .inl (cI, 512, .inl (fun _ => 0)))] H := hP
  have hD : va_D A [(m0, .inr (8, [.ref mH, .int 0, .long 0, .int 0, .long 0, .int 0, .int 0, .int 0, .int 0, .int 0, .int 0, .long 0, .int 0, .int 0, .ref mI, .ref mJ, .ref mS, .ref mD, .int 0, .int 0, .int 0, .long 0, .ref mX, .int 0, .int 0, .int 0, .ref mA, .ref mB, .ref mW, .ref mL, .int 0])), (mH, .inl (cI, 512, .inl (fun _ => 0)))] := hD
  try dsimp only at wr_1
  subst wr_1
  refine lv_if_eq (tgt := 24) hx hb dX8_put_9 (by decide) (fun c_9_1 => ?_) (fun c_9_1 => ?_)
  · have t_9_1 := c_9_1
    try simp only [kb_eq0, kb_ne0, lg_cmp_lt, lg_cmp_le, lg_cmp_gt, lg_cmp_ge, lg_cmp_eq] at t_9_1
    try simp only [Int32.lt_iff_toInt_lt, Int32.le_iff_toInt_le, ← Int32.toInt_inj, Int64.lt_iff_toInt_lt, Int64.le_iff_toInt_le, ← Int64.toInt_inj, Int32.toInt_toInt64, Int32.reduceToInt, Int64.reduceToInt] at t_9_1
    refine lv_iconst (v := (-1)) hx hb dX8_put_24 (by decide) ?_
    refine kIret (u := (fun _ => 0)) hx hb hr rfl hlocks hS dX8_put_25 ?_ (hP.sub [0, 1] rfl) (hD.sub [0, 1] (by decide) rfl)
    first
      | exact (kif_t (by omega)).symm
      | exact (kif_f (by omega)).symm
  · have t_9_1 := c_9_1
    try simp only [kb_eq0, kb_ne0, lg_cmp_lt, lg_cmp_le, lg_cmp_gt, lg_cmp_ge, lg_cmp_eq] at t_9_1
    try simp only [Int32.lt_iff_toInt_lt, Int32.le_iff_toInt_le, ← Int32.toInt_inj, Int64.lt_iff_toInt_lt, Int64.le_iff_toInt_le, ← Int64.toInt_inj, Int32.toInt_toInt64, Int32.reduceToInt, Int64.reduceToInt] at t_9_1
    refine lv_iload_n hx hb dX8_put_12 rfl (lv_at hl 2 rfl) ?_
    refine lv_i2l hx hb dX8_put_13 rfl ?_
    refine lv_lconst (v := 0) hx hb dX8_put_14 (by decide) ?_
    refine lv_ldc2 (v := 262143) hx hb hown (hts (.constantLong RX8 53 (262143)) (List.mem_of_getElem? (i := 2) rfl)) dX8_put_15 ?_
    refine kCallI (wr := [(m0, .inr (8, [.ref mH, .int 0, .long 0, .int 0, .long 0, .int 0, .int 0, .int 0, .int 0, .int 0, .int 0, .long 0, .int 0, .int 0, .ref mI, .ref mJ, .ref mS, .ref mD, .int 0, .int 0, .int 0, .long 0, .ref mX, .int 0, .int 0, .int 0, .ref mA, .ref mB, .ref mW, .ref mL, .int 0])), (mH, .inl (cI, 512, .inl (fun _ => 0)))]) (va_runS (As := [.long b.toInt64, .long 0, .long 262143]) (rest := []) ⟨hx, hb, hml, hown, hts⟩ (r_in l D cI cL cB cZ cT _ (b.toInt64) 0 262143) (va_cwS 3 hts gX8_put_X8_in rfl rfl rfl (by decide +kernel) ⟨Nat.le_of_ble_eq_true rfl, Nat.le_of_ble_eq_true rfl⟩) (kPreS hG hP hD [] rfl (by decide)) rfl rfl hl.1 rfl (lv_room (Nat.le_of_ble_eq_true rfl)) dX8_put_18 ⟨Nat.le_of_ble_eq_true rfl, Nat.le_of_ble_eq_true rfl⟩) hA hP hD hS [] [0, 1] rfl rfl (by decide) (by decide) (fun r_3 u_r_3 H locs wr_3 hP hD hS => ?_)
    have hP : va_P D vwCl [(m0, .inr (8, [.ref mH, .int 0, .long 0, .int 0, .long 0, .int 0, .int 0, .int 0, .int 0, .int 0, .int 0, .long 0, .int 0, .int 0, .ref mI, .ref mJ, .ref mS, .ref mD, .int 0, .int 0, .int 0, .long 0, .ref mX, .int 0, .int 0, .int 0, .ref mA, .ref mB, .ref mW, .ref mL, .int 0])), (mH, .inl (cI, 512, .inl (fun _ => 0)))] H := hP
    have hD : va_D A [(m0, .inr (8, [.ref mH, .int 0, .long 0, .int 0, .long 0, .int 0, .int 0, .int 0, .int 0, .int 0, .int 0, .long 0, .int 0, .int 0, .ref mI, .ref mJ, .ref mS, .ref mD, .int 0, .int 0, .int 0, .long 0, .ref mX, .int 0, .int 0, .int 0, .ref mA, .ref mB, .ref mW, .ref mL, .int 0])), (mH, .inl (cI, 512, .inl (fun _ => 0)))] := hD
    try dsimp only at wr_3
    subst wr_3
    refine lv_if_ne (tgt := 26) hx hb dX8_put_21 (by decide) (fun c_21_3 => ?_) (fun c_21_3 => ?_)
    · have t_21_3 := c_21_3
      try simp only [kb_eq0, kb_ne0, lg_cmp_lt, lg_cmp_le, lg_cmp_gt, lg_cmp_ge, lg_cmp_eq] at t_21_3
      try simp only [Int32.lt_iff_toInt_lt, Int32.le_iff_toInt_le, ← Int32.toInt_inj, Int64.lt_iff_toInt_lt, Int64.le_iff_toInt_le, ← Int64.toInt_inj, Int32.toInt_toInt64, Int32.reduceToInt, Int64.reduceToInt] at t_21_3
      refine lv_aload_n hx hb dX8_put_26 rfl (lv_at hl 0 rfl) ?_
      refine va_get (D := D) (ci := 8) (v := .ref mH) (C := RX8) (T := TX8) (N := 31) hx hb hts iX8_put_X8 hown hK hP 0 rfl rfl 0 (by decide) (hts (.fieldLink RX8 7 "TapeCalculatorModel" "half" "[I") (List.mem_of_getElem? (i := 3) rfl)) (fun _ h9 => h9) rfl dX8_put_27 ?_
      refine lv_iload_n hx hb dX8_put_30 rfl (lv_at hl 1 rfl) ?_
      refine va_iald hx hb hK hP 1 0 rfl rfl (vp_in_iff.mpr (by omega)) dX8_put_31 ?_
      refine lv_istore_n (lv' := [(3, .int 0), (0, .ref m0), (1, .int n), (2, .int b)]) hx hb dX8_put_32 rfl hl (by decide) rfl (fun ls hl => ?_)
      refine lv_aload_n hx hb dX8_put_33 rfl (lv_at hl 1 rfl) ?_
      refine va_get (D := D) (ci := 8) (v := .ref mH) (C := RX8) (T := TX8) (N := 31) hx hb hts iX8_put_X8 hown hK hP 0 rfl rfl 0 (by decide) (hts (.fieldLink RX8 7 "TapeCalculatorModel" "half" "[I") (List.mem_of_getElem? (i := 3) rfl)) (fun _ h9 => h9) rfl dX8_put_34 ?_
      refine lv_iload_n hx hb dX8_put_37 rfl (lv_at hl 2 rfl) ?_
      refine lv_iload_n hx hb dX8_put_38 rfl (lv_at hl 3 rfl) ?_
      refine va_iast hx hb hK hP hD hS 1 0 rfl rfl (vp_in_iff.mpr (by omega)) dX8_put_39 (fun H locs hP hD hS => ?_)
      have hP : va_P D vwCl [(m0, .inr (8, [.ref mH, .int 0, .long 0, .int 0, .long 0, .int 0, .int 0, .int 0, .int 0, .int 0, .int 0, .long 0, .int 0, .int 0, .ref mI, .ref mJ, .ref mS, .ref mD, .int 0, .int 0, .int 0, .long 0, .ref mX, .int 0, .int 0, .int 0, .ref mA, .ref mB, .ref mW, .ref mL, .int 0])), (mH, .inl (cI, 512, .inl (upd (fun _ => 0) n.toNatClampNeg b)))] H := hP
      have hD : va_D A [(m0, .inr (8, [.ref mH, .int 0, .long 0, .int 0, .long 0, .int 0, .int 0, .int 0, .int 0, .int 0, .int 0, .long 0, .int 0, .int 0, .ref mI, .ref mJ, .ref mS, .ref mD, .int 0, .int 0, .int 0, .long 0, .ref mX, .int 0, .int 0, .int 0, .ref mA, .ref mB, .ref mW, .ref mL, .int 0])), (mH, .inl (cI, 512, .inl (upd (fun _ => 0) n.toNatClampNeg b)))] := hD
      refine lv_iload_n hx hb dX8_put_40 rfl (lv_at hl 0 rfl) ?_
      refine kIret (u := (upd (fun _ => 0) n.toNatClampNeg b)) hx hb hr rfl hlocks hS dX8_put_41 ?_ (hP.sub [0, 1] rfl) (hD.sub [0, 1] (by decide) rfl)
      first
        | exact (kif_t (by omega)).symm
        | exact (kif_f (by omega)).symm
    · have t_21_3 := c_21_3
      try simp only [kb_eq0, kb_ne0, lg_cmp_lt, lg_cmp_le, lg_cmp_gt, lg_cmp_ge, lg_cmp_eq] at t_21_3
      try simp only [Int32.lt_iff_toInt_lt, Int32.le_iff_toInt_le, ← Int32.toInt_inj, Int64.lt_iff_toInt_lt, Int64.le_iff_toInt_le, ← Int64.toInt_inj, Int32.toInt_toInt64, Int32.reduceToInt, Int64.reduceToInt] at t_21_3
      refine lv_iconst (v := (-1)) hx hb dX8_put_24 (by decide) ?_
      refine kIret (u := (fun _ => 0)) hx hb hr rfl hlocks hS dX8_put_25 ?_ (hP.sub [0, 1] rfl) (hD.sub [0, 1] (by decide) rfl)
      first
        | exact (kif_t (by omega)).symm
        | exact (kif_f (by omega)).symm
theorem k_even {n : Int32} (h : 0 ≤ n.toInt ∧ n.toInt ≤ 511) : ((n - n / 2 * 2).toInt = 0 ↔ (n &&& 1).toInt = 0) ∧ ((n - n / 2 * 2).toInt = 0 → vp_in (n + 1) 512) := by
  obtain ⟨k, hk, rfl⟩ : ∃ k : Nat, k < 512 ∧ n = nI k := by
    obtain ⟨j, hj, rfl⟩ := nI_of (x := n) (by rw [Int32.lt_iff_toInt_lt]; simp only [Int32.reduceToInt]; omega)
    rw [nI_toInt hj] at h
    exact ⟨j, by omega, rfl⟩
  have e1 : nI k - nI k / 2 * 2 = nI (k % 2) := pk_rem (d := 2) (by omega) (by omega) (by omega)
  have e2 : nI k &&& 1 = nI (k % 2) := pk_andN (by omega) 1 (by decide)
  rw [e1, e2, nI_toInt (by omega)]
  refine ⟨Iff.rfl, fun hz => ?_⟩
  rw [nI_1]
  exact vp_in_nI (by omega) (by omega)
set_option maxRecDepth 100000 in
theorem iX8_wholeAt_X8 : ∀ w ∈ wsX80, w ∈ wsX8_wholeAt := fun w h => (goodIn_r (big := wsX8_wholeAt) wsX80 [2, 3, 4, 5, 6, 7, 8, 9, 10, 11, 12, 13, 14, 15, 16, 17, 18, 19, 20, 21, 22, 23, 24, 25, 26, 27, 28, 29, 30, 31, 32] rfl (by decide +kernel) w h).1
set_option maxRecDepth 100000 in
set_option maxHeartbeats 4000000 in
theorem r_wholeAt (l : Launch) (D : va_G) (cI cL cB cZ cT : ClassId) (sz : Nat) (m0 mH mI mJ mS mD mX mA mB mW mL : Nat) (n : Int32) (h1 : vp_in n 512) (h2 : vp_in (n + 1) 512) : kM (S := Unit) l yX8_wholeAt wsX8_wholeAt ({ frames := 0, cells := 0, slots := 0, locals := 0 }) D (kT cI cL cB cZ cT) [.ref m0, .int n] [(m0, .inr (8, [.ref mH, .int 0, .long 0, .int 0, .long 0, .int 0, .int 0, .int 0, .int 0, .int 0, .int 0, .long 0, .int 0, .int 0, .ref mI, .ref mJ, .ref mS, .ref mD, .int 0, .int 0, .int 0, .long 0, .ref mX, .int 0, .int 0, .int 0, .ref mA, .ref mB, .ref mW, .ref mL, .int 0])), (mH, .inl (cI, 512, .inl (fun _ => 0)))] sz eL (fun r _ => r = 0) (fun _ => [(m0, .inr (8, [.ref mH, .int 0, .long 0, .int 0, .long 0, .int 0, .int 0, .int 0, .int 0, .int 0, .int 0, .long 0, .int 0, .int 0, .ref mI, .ref mJ, .ref mS, .ref mD, .int 0, .int 0, .int 0, .long 0, .ref mX, .int 0, .int 0, .int 0, .ref mA, .ref mB, .ref mW, .ref mL, .int 0])), (mH, .inl (cI, 512, .inl (fun _ => 0)))]) 0 0 := by
  refine kStart (cc := cX8_wholeAt) (maxL := 2) (ret := (some .long)) (own := RX8) (by decide) rfl rfl (Nat.le_of_ble_eq_true rfl) ?_
  intro p e s m args below meth c A ls hx hb hr hml hown hts hlocks hnm hsz hA hG hP hD hS hl
  have hK := hG.1
  have hl : lv_has ls 2 [(0, .ref m0), (1, .int n)] := hl
  refine lv_aload_n hx hb dX8_wholeAt_0 rfl (lv_at hl 0 rfl) ?_
  refine va_get (D := D) (ci := 8) (v := .ref mH) (C := RX8) (T := TX8) (N := 31) hx hb hts iX8_wholeAt_X8 hown hK hP 0 rfl rfl 0 (by decide) (hts (.fieldLink RX8 7 "TapeCalculatorModel" "half" "[I") (List.mem_of_getElem? (i := 1) rfl)) (fun _ h9 => h9) rfl dX8_wholeAt_1 ?_
  refine lv_iload_n hx hb dX8_wholeAt_4 rfl (lv_at hl 1 rfl) ?_
  refine va_iald hx hb hK hP 1 0 rfl rfl h1 dX8_wholeAt_5 ?_
  refine lv_i2l hx hb dX8_wholeAt_6 rfl ?_
  refine lv_topl (fun x_1 ex_1 => ?_)
  obtain rfl : x_1 = 0 := ex_1.trans (by decide)
  refine lv_bipush (v := 18) hx hb dX8_wholeAt_7 (by decide) ?_
  refine lv_lshl hx hb dX8_wholeAt_9 rfl ?_
  refine lv_topl (fun x_2 ex_2 => ?_)
  obtain rfl : x_2 = 0 := ex_2.trans (by decide)
  refine lv_aload_n hx hb dX8_wholeAt_10 rfl (lv_at hl 0 rfl) ?_
  refine va_get (D := D) (ci := 8) (v := .ref mH) (C := RX8) (T := TX8) (N := 31) hx hb hts iX8_wholeAt_X8 hown hK hP 0 rfl rfl 0 (by decide) (hts (.fieldLink RX8 7 "TapeCalculatorModel" "half" "[I") (List.mem_of_getElem? (i := 1) rfl)) (fun _ h9 => h9) rfl dX8_wholeAt_11 ?_
  refine lv_iload_n hx hb dX8_wholeAt_14 rfl (lv_at hl 1 rfl) ?_
  refine lv_iconst (v := 1) hx hb dX8_wholeAt_15 (by decide) ?_
  refine lv_iadd hx hb dX8_wholeAt_16 ?_
  refine va_iald hx hb hK hP 1 0 rfl rfl h2 dX8_wholeAt_17 ?_
  refine lv_i2l hx hb dX8_wholeAt_18 rfl ?_
  refine lv_topl (fun x_3 ex_3 => ?_)
  obtain rfl : x_3 = 0 := ex_3.trans (by decide)
  refine lv_lor hx hb dX8_wholeAt_19 ?_
  refine lv_topl (fun x_4 ex_4 => ?_)
  obtain rfl : x_4 = 0 := ex_4.trans (by decide)
  refine kLret (u := ()) hx hb hr hlocks hS dX8_wholeAt_20 ?_ (hP.sub [0, 1] rfl) (hD.sub [0, 1] (by decide) rfl)
  exact rfl
set_option maxRecDepth 100000 in
set_option maxHeartbeats 4000000 in
theorem r_whole (l : Launch) (D : va_G) (cI cL cB cZ cT : ClassId) (sz : Nat) (m0 mH mI mJ mS mD mX mA mB mW mL : Nat) (n : Int32) : kM (S := Unit) l yX8_whole wsX8_whole ({ frames := 1, cells := 0, slots := 0, locals := 25 }) D (kT cI cL cB cZ cT) [.ref m0, .int n] [(m0, .inr (8, [.ref mH, .int 0, .long 0, .int 0, .long 0, .int 0, .int 0, .int 0, .int 0, .int 0, .int 0, .long 0, .int 0, .int 0, .ref mI, .ref mJ, .ref mS, .ref mD, .int 0, .int 0, .int 0, .long 0, .ref mX, .int 0, .int 0, .int 0, .ref mA, .ref mB, .ref mW, .ref mL, .int 0])), (mH, .inl (cI, 512, .inl (fun _ => 0)))] sz eL (fun r _ => r = (kif ((0 ≤ n.toInt ∧ n.toInt < 512) ∧ (n &&& 1).toInt = 0) 0 (-1))) (fun _ => [(m0, .inr (8, [.ref mH, .int 0, .long 0, .int 0, .long 0, .int 0, .int 0, .int 0, .int 0, .int 0, .int 0, .long 0, .int 0, .int 0, .ref mI, .ref mJ, .ref mS, .ref mD, .int 0, .int 0, .int 0, .long 0, .ref mX, .int 0, .int 0, .int 0, .ref mA, .ref mB, .ref mW, .ref mL, .int 0])), (mH, .inl (cI, 512, .inl (fun _ => 0)))]) 0 0 := by
  refine kStart (cc := cX8_whole) (maxL := 2) (ret := (some .long)) (own := RX8) (by decide) rfl rfl (Nat.le_of_ble_eq_true rfl) ?_
  intro p e s m args below meth c A ls hx hb hr hml hown hts hlocks hnm hsz hA hG hP hD hS hl
  have hK := hG.1
  have hl : lv_has ls 2 [(0, .ref m0), (1, .int n)] := hl
  refine lv_iload_n hx hb dX8_whole_0 rfl (lv_at hl 1 rfl) ?_
  refine lv_i2l hx hb dX8_whole_1 rfl ?_
  refine lv_lconst (v := 0) hx hb dX8_whole_2 (by decide) ?_
  refine lv_ldc2 (v := 511) hx hb hown (hts (.constantLong RX8 47 (511)) (List.mem_of_getElem? (i := 1) rfl)) dX8_whole_3 ?_
  refine kCallI (wr := [(m0, .inr (8, [.ref mH, .int 0, .long 0, .int 0, .long 0, .int 0, .int 0, .int 0, .int 0, .int 0, .int 0, .long 0, .int 0, .int 0, .ref mI, .ref mJ, .ref mS, .ref mD, .int 0, .int 0, .int 0, .long 0, .ref mX, .int 0, .int 0, .int 0, .ref mA, .ref mB, .ref mW, .ref mL, .int 0])), (mH, .inl (cI, 512, .inl (fun _ => 0)))]) (va_runS (As := [.long n.toInt64, .long 0, .long 511]) (rest := []) ⟨hx, hb, hml, hown, hts⟩ (r_in l D cI cL cB cZ cT _ (n.toInt64) 0 511) (va_cwS 3 hts gX8_whole_X8_in rfl rfl rfl (by decide +kernel) ⟨Nat.le_of_ble_eq_true rfl, Nat.le_of_ble_eq_true rfl⟩) (kPreS hG hP hD [] rfl (by decide)) rfl rfl hl.1 rfl (lv_room (Nat.le_of_ble_eq_true rfl)) dX8_whole_6 ⟨Nat.le_of_ble_eq_true rfl, Nat.le_of_ble_eq_true rfl⟩) hA hP hD hS [] [0, 1] rfl rfl (by decide) (by decide) (fun r_1 u_r_1 H locs wr_1 hP hD hS => ?_)
  have hP : va_P D vwCl [(m0, .inr (8, [.ref mH, .int 0, .long 0, .int 0, .long 0, .int 0, .int 0, .int 0, .int 0, .int 0, .int 0, .long 0, .int 0, .int 0, .ref mI, .ref mJ, .ref mS, .ref mD, .int 0, .int 0, .int 0, .long 0, .ref mX, .int 0, .int 0, .int 0, .ref mA, .ref mB, .ref mW, .ref mL, .int 0])), (mH, .inl (cI, 512, .inl (fun _ => 0)))] H := hP
  have hD : va_D A [(m0, .inr (8, [.ref mH, .int 0, .long 0, .int 0, .long 0, .int 0, .int 0, .int 0, .int 0, .int 0, .int 0, .long 0, .int 0, .int 0, .ref mI, .ref mJ, .ref mS, .ref mD, .int 0, .int 0, .int 0, .long 0, .ref mX, .int 0, .int 0, .int 0, .ref mA, .ref mB, .ref mW, .ref mL, .int 0])), (mH, .inl (cI, 512, .inl (fun _ => 0)))] := hD
  try dsimp only at wr_1
  subst wr_1
  refine lv_if_eq (tgt := 26) hx hb dX8_whole_9 (by decide) (fun c_9_1 => ?_) (fun c_9_1 => ?_)
  · have t_9_1 := c_9_1
    try simp only [kb_eq0, kb_ne0, lg_cmp_lt, lg_cmp_le, lg_cmp_gt, lg_cmp_ge, lg_cmp_eq] at t_9_1
    try simp only [Int32.lt_iff_toInt_lt, Int32.le_iff_toInt_le, ← Int32.toInt_inj, Int64.lt_iff_toInt_lt, Int64.le_iff_toInt_le, ← Int64.toInt_inj, Int32.toInt_toInt64, Int32.reduceToInt, Int64.reduceToInt] at t_9_1
    refine lv_ldc2 (v := (-1)) hx hb hown (hts (.constantLong RX8 59 (-1)) (List.mem_of_getElem? (i := 2) rfl)) dX8_whole_26 ?_
    refine kLret (u := ()) hx hb hr hlocks hS dX8_whole_29 ?_ (hP.sub [0, 1] rfl) (hD.sub [0, 1] (by decide) rfl)
    first
      | exact (kif_f (by omega)).symm
      | (have hk := (k_even (n := n) (by omega)).1; first | exact (kif_t (by omega)).symm | exact (kif_f (by omega)).symm)
  · have t_9_1 := c_9_1
    try simp only [kb_eq0, kb_ne0, lg_cmp_lt, lg_cmp_le, lg_cmp_gt, lg_cmp_ge, lg_cmp_eq] at t_9_1
    try simp only [Int32.lt_iff_toInt_lt, Int32.le_iff_toInt_le, ← Int32.toInt_inj, Int64.lt_iff_toInt_lt, Int64.le_iff_toInt_le, ← Int64.toInt_inj, Int32.toInt_toInt64, Int32.reduceToInt, Int64.reduceToInt] at t_9_1
    refine lv_iload_n hx hb dX8_whole_12 rfl (lv_at hl 1 rfl) ?_
    refine lv_iconst (v := 2) hx hb dX8_whole_13 (by decide) ?_
    refine lv_irem hx hb dX8_whole_14 (by decide) ?_
    refine lv_if_ne (tgt := 26) hx hb dX8_whole_15 (by decide) (fun c_15_2 => ?_) (fun c_15_2 => ?_)
    · have t_15_2 := c_15_2
      try simp only [kb_eq0, kb_ne0, lg_cmp_lt, lg_cmp_le, lg_cmp_gt, lg_cmp_ge, lg_cmp_eq] at t_15_2
      try simp only [Int32.lt_iff_toInt_lt, Int32.le_iff_toInt_le, ← Int32.toInt_inj, Int64.lt_iff_toInt_lt, Int64.le_iff_toInt_le, ← Int64.toInt_inj, Int32.toInt_toInt64, Int32.reduceToInt, Int64.reduceToInt] at t_15_2
      refine lv_ldc2 (v := (-1)) hx hb hown (hts (.constantLong RX8 59 (-1)) (List.mem_of_getElem? (i := 2) rfl)) dX8_whole_26 ?_
      refine kLret (u := ()) hx hb hr hlocks hS dX8_whole_29 ?_ (hP.sub [0, 1] rfl) (hD.sub [0, 1] (by decide) rfl)
      first
        | exact (kif_f (by omega)).symm
        | (have hk := (k_even (n := n) (by omega)).1; first | exact (kif_t (by omega)).symm | exact (kif_f (by omega)).symm)
    · have t_15_2 := c_15_2
      try simp only [kb_eq0, kb_ne0, lg_cmp_lt, lg_cmp_le, lg_cmp_gt, lg_cmp_ge, lg_cmp_eq] at t_15_2
      try simp only [Int32.lt_iff_toInt_lt, Int32.le_iff_toInt_le, ← Int32.toInt_inj, Int64.lt_iff_toInt_lt, Int64.le_iff_toInt_le, ← Int64.toInt_inj, Int32.toInt_toInt64, Int32.reduceToInt, Int64.reduceToInt] at t_15_2
      refine lv_aload_n hx hb dX8_whole_18 rfl (lv_at hl 0 rfl) ?_
      refine lv_iload_n hx hb dX8_whole_19 rfl (lv_at hl 1 rfl) ?_
      refine kCallL (wr := []) (va_runV (As := [.int n]) (rest := []) ⟨hx, hb, hml, hown, hts⟩ (r_wholeAt l D cI cL cB cZ cT _ m0 mH mI mJ mS mD mX mA mB mW mL n (vp_in_iff.mpr (by omega)) ((k_even (n := n) (by omega)).2 t_15_2)) (cwV 1 hts gX8_whole_X8_wholeAt rfl rfl rfl (by decide +kernel) ⟨Nat.le_of_ble_eq_true rfl, Nat.le_of_ble_eq_true rfl⟩) (kPreV hG hP hD [0, 1] rfl (by decide) 0 8 rfl rfl rfl) rfl rfl hl.1 rfl (lv_room (Nat.le_of_ble_eq_true rfl)) dX8_whole_20 ⟨Nat.le_of_ble_eq_true rfl, Nat.le_of_ble_eq_true rfl⟩) hA hP hD hS [0, 1] [] rfl rfl (by decide) (by decide) (fun r_4 u_r_4 H locs wr_4 hP hD hS => ?_)
      have hP : va_P D vwCl [(m0, .inr (8, [.ref mH, .int 0, .long 0, .int 0, .long 0, .int 0, .int 0, .int 0, .int 0, .int 0, .int 0, .long 0, .int 0, .int 0, .ref mI, .ref mJ, .ref mS, .ref mD, .int 0, .int 0, .int 0, .long 0, .ref mX, .int 0, .int 0, .int 0, .ref mA, .ref mB, .ref mW, .ref mL, .int 0])), (mH, .inl (cI, 512, .inl (fun _ => 0)))] H := hP
      have hD : va_D A [(m0, .inr (8, [.ref mH, .int 0, .long 0, .int 0, .long 0, .int 0, .int 0, .int 0, .int 0, .int 0, .int 0, .long 0, .int 0, .int 0, .ref mI, .ref mJ, .ref mS, .ref mD, .int 0, .int 0, .int 0, .long 0, .ref mX, .int 0, .int 0, .int 0, .ref mA, .ref mB, .ref mW, .ref mL, .int 0])), (mH, .inl (cI, 512, .inl (fun _ => 0)))] := hD
      try dsimp only at wr_4
      subst wr_4
      refine lv_goto (tgt := 29) hx hb dX8_whole_23 (by decide) ?_
      refine kLret (u := ()) hx hb hr hlocks hS dX8_whole_29 ?_ (hP.sub [0, 1] rfl) (hD.sub [0, 1] (by decide) rfl)
      first
        | exact (kif_f (by omega)).symm
        | (have hk := (k_even (n := n) (by omega)).1; first | exact (kif_t (by omega)).symm | exact (kif_f (by omega)).symm)
set_option maxRecDepth 100000 in
theorem iX8_told_X8 : ∀ w ∈ wsX80, w ∈ wsX8_told := fun w h => (goodIn_r (big := wsX8_told) wsX80 [12, 13, 14, 15, 16, 17, 18, 19, 20, 21, 22, 23, 24, 25, 26, 27, 28, 29, 30, 31, 32, 33, 34, 35, 36, 37, 38, 39, 40, 41, 42] rfl (by decide +kernel) w h).1
set_option maxRecDepth 100000 in
set_option maxHeartbeats 4000000 in
theorem r_told (l : Launch) (D : va_G) (cI cL cB cZ cT : ClassId) (sz : Nat) (m0 mH mI mJ mS mD mX mA mB mW mL : Nat) (w : Int32) : kM (S := Unit) l yX8_told wsX8_told ({ frames := 0, cells := 0, slots := 0, locals := 0 }) D (kT cI cL cB cZ cT) [.ref m0, .int w] [(m0, .inr (8, [.ref mH, .int 0, .long 0, .int 0, .long 0, .int 0, .int 0, .int 0, .int 0, .int 0, .int 0, .long 0, .int 0, .int 0, .ref mI, .ref mJ, .ref mS, .ref mD, .int 0, .int 0, .int 0, .long 0, .ref mX, .int 0, .int 0, .int 0, .ref mA, .ref mB, .ref mW, .ref mL, .int 0]))] sz eL (fun r _ => r = (kif (0 ≤ w.toInt ∧ w.toInt ≤ 9) 0 (-1))) (fun _ => [(m0, .inr (8, [.ref mH, .int 0, .long 0, .int 0, .long 0, .int 0, .int 0, .int 0, .int 0, .int 0, .int 0, .long 0, .int 0, .int 0, .ref mI, .ref mJ, .ref mS, .ref mD, .int 0, .int 0, .int 0, .long 0, .ref mX, .int 0, .int 0, .int 0, .ref mA, .ref mB, .ref mW, .ref mL, .int 0]))]) 0 0 := by
  refine kStart (cc := cX8_told) (maxL := 2) (ret := (some .long)) (own := RX8) (by decide) rfl rfl (Nat.le_of_ble_eq_true rfl) ?_
  intro p e s m args below meth c A ls hx hb hr hml hown hts hlocks hnm hsz hA hG hP hD hS hl
  have hK := hG.1
  have hl : lv_has ls 2 [(0, .ref m0), (1, .int w)] := hl
  refine lv_iload_n hx hb dX8_told_0 rfl (lv_at hl 1 rfl) ?_
  rcases ksw_0_9 w with hsw | rfl | rfl | rfl | rfl | rfl | rfl | rfl | rfl | rfl | rfl
  · refine lv_tableOut (tgt := 135) hx hb dX8_told_1 hsw (by decide) ?_
    refine lv_ldc2 (v := (-1)) hx hb hown (hts (.constantLong RX8 59 (-1)) (List.mem_of_getElem? (i := 11) rfl)) dX8_told_135 ?_
    refine kLret (u := ()) hx hb hr hlocks hS dX8_told_138 ?_ (hP.sub [0] rfl) (hD.sub [0] (by decide) rfl)
    first
      | exact (kif_t (by decide)).symm
      | exact (kif_t (by omega)).symm
      | exact (kif_f (by omega)).symm
  · refine lv_tableIn (tgt := 56) (off := 55) hx hb dX8_told_1 (by decide) (by decide) (by decide) (by decide) ?_
    refine lv_aload_n hx hb dX8_told_56 rfl (lv_at hl 0 rfl) ?_
    refine va_get (D := D) (ci := 8) (v := .int 0) (C := RX8) (T := TX8) (N := 31) hx hb hts iX8_told_X8 hown hK hP 0 rfl rfl 1 (by decide) (hts (.fieldLink RX8 61 "TapeCalculatorModel" "accMinus" "Z") (List.mem_of_getElem? (i := 1) rfl)) (fun _ h9 => h9) rfl dX8_told_57 ?_
    refine lv_if_eq (tgt := 67) hx hb dX8_told_60 (by decide) (fun c_60_0 => ?_) (fun c_60_0 => ?_)
    · have t_60_0 := c_60_0
      try simp only [kb_eq0, kb_ne0, lg_cmp_lt, lg_cmp_le, lg_cmp_gt, lg_cmp_ge, lg_cmp_eq] at t_60_0
      try simp only [Int32.lt_iff_toInt_lt, Int32.le_iff_toInt_le, ← Int32.toInt_inj, Int64.lt_iff_toInt_lt, Int64.le_iff_toInt_le, ← Int64.toInt_inj, Int32.toInt_toInt64, Int32.reduceToInt, Int64.reduceToInt] at t_60_0
      refine lv_lconst (v := 0) hx hb dX8_told_67 (by decide) ?_
      refine kLret (u := ()) hx hb hr hlocks hS dX8_told_68 ?_ (hP.sub [0] rfl) (hD.sub [0] (by decide) rfl)
      first
        | exact (kif_t (by decide)).symm
        | exact (kif_t (by omega)).symm
        | exact (kif_f (by omega)).symm
    · exact absurd (by decide) c_60_0
  · refine lv_tableIn (tgt := 69) (off := 68) hx hb dX8_told_1 (by decide) (by decide) (by decide) (by decide) ?_
    refine lv_aload_n hx hb dX8_told_69 rfl (lv_at hl 0 rfl) ?_
    refine va_get (D := D) (ci := 8) (v := .long 0) (C := RX8) (T := TX8) (N := 31) hx hb hts iX8_told_X8 hown hK hP 0 rfl rfl 2 (by decide) (hts (.fieldLink RX8 65 "TapeCalculatorModel" "acc" "J") (List.mem_of_getElem? (i := 2) rfl)) (fun _ h9 => h9) rfl dX8_told_70 ?_
    refine kLret (u := ()) hx hb hr hlocks hS dX8_told_73 ?_ (hP.sub [0] rfl) (hD.sub [0] (by decide) rfl)
    first
      | exact (kif_t (by decide)).symm
      | exact (kif_t (by omega)).symm
      | exact (kif_f (by omega)).symm
  · refine lv_tableIn (tgt := 74) (off := 73) hx hb dX8_told_1 (by decide) (by decide) (by decide) (by decide) ?_
    refine lv_aload_n hx hb dX8_told_74 rfl (lv_at hl 0 rfl) ?_
    refine va_get (D := D) (ci := 8) (v := .int 0) (C := RX8) (T := TX8) (N := 31) hx hb hts iX8_told_X8 hown hK hP 0 rfl rfl 3 (by decide) (hts (.fieldLink RX8 69 "TapeCalculatorModel" "mqMinus" "Z") (List.mem_of_getElem? (i := 3) rfl)) (fun _ h9 => h9) rfl dX8_told_75 ?_
    refine lv_if_eq (tgt := 85) hx hb dX8_told_78 (by decide) (fun c_78_1 => ?_) (fun c_78_1 => ?_)
    · have t_78_1 := c_78_1
      try simp only [kb_eq0, kb_ne0, lg_cmp_lt, lg_cmp_le, lg_cmp_gt, lg_cmp_ge, lg_cmp_eq] at t_78_1
      try simp only [Int32.lt_iff_toInt_lt, Int32.le_iff_toInt_le, ← Int32.toInt_inj, Int64.lt_iff_toInt_lt, Int64.le_iff_toInt_le, ← Int64.toInt_inj, Int32.toInt_toInt64, Int32.reduceToInt, Int64.reduceToInt] at t_78_1
      refine lv_lconst (v := 0) hx hb dX8_told_85 (by decide) ?_
      refine kLret (u := ()) hx hb hr hlocks hS dX8_told_86 ?_ (hP.sub [0] rfl) (hD.sub [0] (by decide) rfl)
      first
        | exact (kif_t (by decide)).symm
        | exact (kif_t (by omega)).symm
        | exact (kif_f (by omega)).symm
    · exact absurd (by decide) c_78_1
  · refine lv_tableIn (tgt := 87) (off := 86) hx hb dX8_told_1 (by decide) (by decide) (by decide) (by decide) ?_
    refine lv_aload_n hx hb dX8_told_87 rfl (lv_at hl 0 rfl) ?_
    refine va_get (D := D) (ci := 8) (v := .long 0) (C := RX8) (T := TX8) (N := 31) hx hb hts iX8_told_X8 hown hK hP 0 rfl rfl 4 (by decide) (hts (.fieldLink RX8 72 "TapeCalculatorModel" "mq" "J") (List.mem_of_getElem? (i := 4) rfl)) (fun _ h9 => h9) rfl dX8_told_88 ?_
    refine kLret (u := ()) hx hb hr hlocks hS dX8_told_91 ?_ (hP.sub [0] rfl) (hD.sub [0] (by decide) rfl)
    first
      | exact (kif_t (by decide)).symm
      | exact (kif_t (by omega)).symm
      | exact (kif_f (by omega)).symm
  · refine lv_tableIn (tgt := 92) (off := 91) hx hb dX8_told_1 (by decide) (by decide) (by decide) (by decide) ?_
    refine lv_aload_n hx hb dX8_told_92 rfl (lv_at hl 0 rfl) ?_
    refine va_get (D := D) (ci := 8) (v := .int 0) (C := RX8) (T := TX8) (N := 31) hx hb hts iX8_told_X8 hown hK hP 0 rfl rfl 5 (by decide) (hts (.fieldLink RX8 75 "TapeCalculatorModel" "over" "Z") (List.mem_of_getElem? (i := 5) rfl)) (fun _ h9 => h9) rfl dX8_told_93 ?_
    refine lv_if_eq (tgt := 103) hx hb dX8_told_96 (by decide) (fun c_96_2 => ?_) (fun c_96_2 => ?_)
    · have t_96_2 := c_96_2
      try simp only [kb_eq0, kb_ne0, lg_cmp_lt, lg_cmp_le, lg_cmp_gt, lg_cmp_ge, lg_cmp_eq] at t_96_2
      try simp only [Int32.lt_iff_toInt_lt, Int32.le_iff_toInt_le, ← Int32.toInt_inj, Int64.lt_iff_toInt_lt, Int64.le_iff_toInt_le, ← Int64.toInt_inj, Int32.toInt_toInt64, Int32.reduceToInt, Int64.reduceToInt] at t_96_2
      refine lv_lconst (v := 0) hx hb dX8_told_103 (by decide) ?_
      refine kLret (u := ()) hx hb hr hlocks hS dX8_told_104 ?_ (hP.sub [0] rfl) (hD.sub [0] (by decide) rfl)
      first
        | exact (kif_t (by decide)).symm
        | exact (kif_t (by omega)).symm
        | exact (kif_f (by omega)).symm
    · exact absurd (by decide) c_96_2
  · refine lv_tableIn (tgt := 105) (off := 104) hx hb dX8_told_1 (by decide) (by decide) (by decide) (by decide) ?_
    refine lv_aload_n hx hb dX8_told_105 rfl (lv_at hl 0 rfl) ?_
    refine va_get (D := D) (ci := 8) (v := .int 0) (C := RX8) (T := TX8) (N := 31) hx hb hts iX8_told_X8 hown hK hP 0 rfl rfl 6 (by decide) (hts (.fieldLink RX8 78 "TapeCalculatorModel" "place" "I") (List.mem_of_getElem? (i := 6) rfl)) (fun _ h9 => h9) rfl dX8_told_106 ?_
    refine lv_i2l hx hb dX8_told_109 rfl ?_
    refine lv_topl (fun x_4 ex_4 => ?_)
    obtain rfl : x_4 = 0 := ex_4.trans (by decide)
    refine kLret (u := ()) hx hb hr hlocks hS dX8_told_110 ?_ (hP.sub [0] rfl) (hD.sub [0] (by decide) rfl)
    first
      | exact (kif_t (by decide)).symm
      | exact (kif_t (by omega)).symm
      | exact (kif_f (by omega)).symm
  · refine lv_tableIn (tgt := 111) (off := 110) hx hb dX8_told_1 (by decide) (by decide) (by decide) (by decide) ?_
    refine lv_aload_n hx hb dX8_told_111 rfl (lv_at hl 0 rfl) ?_
    refine va_get (D := D) (ci := 8) (v := .int 0) (C := RX8) (T := TX8) (N := 31) hx hb hts iX8_told_X8 hown hK hP 0 rfl rfl 7 (by decide) (hts (.fieldLink RX8 81 "TapeCalculatorModel" "lights" "I") (List.mem_of_getElem? (i := 7) rfl)) (fun _ h9 => h9) rfl dX8_told_112 ?_
    refine lv_i2l hx hb dX8_told_115 rfl ?_
    refine lv_topl (fun x_5 ex_5 => ?_)
    obtain rfl : x_5 = 0 := ex_5.trans (by decide)
    refine kLret (u := ()) hx hb hr hlocks hS dX8_told_116 ?_ (hP.sub [0] rfl) (hD.sub [0] (by decide) rfl)
    first
      | exact (kif_t (by decide)).symm
      | exact (kif_t (by omega)).symm
      | exact (kif_f (by omega)).symm
  · refine lv_tableIn (tgt := 117) (off := 116) hx hb dX8_told_1 (by decide) (by decide) (by decide) (by decide) ?_
    refine lv_aload_n hx hb dX8_told_117 rfl (lv_at hl 0 rfl) ?_
    refine va_get (D := D) (ci := 8) (v := .int 0) (C := RX8) (T := TX8) (N := 31) hx hb hts iX8_told_X8 hown hK hP 0 rfl rfl 9 (by decide) (hts (.fieldLink RX8 84 "TapeCalculatorModel" "drumPlace" "I") (List.mem_of_getElem? (i := 8) rfl)) (fun _ h9 => h9) rfl dX8_told_118 ?_
    refine lv_i2l hx hb dX8_told_121 rfl ?_
    refine lv_topl (fun x_6 ex_6 => ?_)
    obtain rfl : x_6 = 0 := ex_6.trans (by decide)
    refine kLret (u := ()) hx hb hr hlocks hS dX8_told_122 ?_ (hP.sub [0] rfl) (hD.sub [0] (by decide) rfl)
    first
      | exact (kif_t (by decide)).symm
      | exact (kif_t (by omega)).symm
      | exact (kif_f (by omega)).symm
  · refine lv_tableIn (tgt := 123) (off := 122) hx hb dX8_told_1 (by decide) (by decide) (by decide) (by decide) ?_
    refine lv_aload_n hx hb dX8_told_123 rfl (lv_at hl 0 rfl) ?_
    refine va_get (D := D) (ci := 8) (v := .int 0) (C := RX8) (T := TX8) (N := 31) hx hb hts iX8_told_X8 hown hK hP 0 rfl rfl 10 (by decide) (hts (.fieldLink RX8 87 "TapeCalculatorModel" "stopped" "I") (List.mem_of_getElem? (i := 9) rfl)) (fun _ h9 => h9) rfl dX8_told_124 ?_
    refine lv_i2l hx hb dX8_told_127 rfl ?_
    refine lv_topl (fun x_7 ex_7 => ?_)
    obtain rfl : x_7 = 0 := ex_7.trans (by decide)
    refine kLret (u := ()) hx hb hr hlocks hS dX8_told_128 ?_ (hP.sub [0] rfl) (hD.sub [0] (by decide) rfl)
    first
      | exact (kif_t (by decide)).symm
      | exact (kif_t (by omega)).symm
      | exact (kif_f (by omega)).symm
  · refine lv_tableIn (tgt := 129) (off := 128) hx hb dX8_told_1 (by decide) (by decide) (by decide) (by decide) ?_
    refine lv_aload_n hx hb dX8_told_129 rfl (lv_at hl 0 rfl) ?_
    refine va_get (D := D) (ci := 8) (v := .int 0) (C := RX8) (T := TX8) (N := 31) hx hb hts iX8_told_X8 hown hK hP 0 rfl rfl 12 (by decide) (hts (.fieldLink RX8 43 "TapeCalculatorModel" "chosen" "I") (List.mem_of_getElem? (i := 10) rfl)) (fun _ h9 => h9) rfl dX8_told_130 ?_
    refine lv_i2l hx hb dX8_told_133 rfl ?_
    refine lv_topl (fun x_8 ex_8 => ?_)
    obtain rfl : x_8 = 0 := ex_8.trans (by decide)
    refine kLret (u := ()) hx hb hr hlocks hS dX8_told_134 ?_ (hP.sub [0] rfl) (hD.sub [0] (by decide) rfl)
    first
      | exact (kif_t (by decide)).symm
      | exact (kif_t (by omega)).symm
      | exact (kif_f (by omega)).symm
