set_option maxRecDepth 100000 in
theorem iX2_addByte_X2 : ∀ w ∈ wsX20, w ∈ wsX2_addByte := fun w h => (goodIn_r (big := wsX2_addByte) wsX20 [3, 4] rfl (by decide +kernel) w h).1
set_option maxRecDepth 100000 in
set_option maxHeartbeats 4000000 in
theorem c_addByte_0 (l : Launch) (D : va_G) (cI cL cB cZ cT : ClassId) (sz : Nat) (aW bW : Nat) (fw : Nat → Int32) (b : Int32) : kM (S := Unit) l yX2_addByte wsX2_addByte ({ frames := 0, cells := 0, slots := 0, locals := 0 }) D (kT cI cL cB cZ cT) [.ref aW, .int b] [(aW, .inr (2, [.ref bW, .int 0])), (bW, .inl (cB, 11, .inl fw))] sz eV (fun _ _ => True) (fun _ => [(aW, .inr (2, [.ref bW, .int 1])), (bW, .inl (cB, 11, .inl (upd fw (0 : Int32).toNatClampNeg (vp_nar .byte b.toInt8.toInt32))))]) 0 0 := by
  refine kStart (cc := cX2_addByte) (maxL := 2) (ret := none) (own := RX2) (by decide) rfl rfl (Nat.le_of_ble_eq_true rfl) ?_
  intro p e s m args below meth c A ls hx hb hr hml hown hts hlocks hnm hsz hA hG hP hD hS hl
  have hK := hG.1
  have hl : lv_has ls 2 [(0, .ref aW), (1, .int b)] := hl
  refine lv_aload_n hx hb dX2_addByte_0 rfl (lv_at hl 0 rfl) ?_
  refine va_get (D := D) (ci := 2) (v := .int 0) (C := RX2) (T := TX2) (N := 2) hx hb hts iX2_addByte_X2 hown hK hP 0 rfl rfl 1 (by decide) (hts (.fieldLink RX2 15 "TapeCalculator$LineWriter" "length" "I") (List.mem_of_getElem? (i := 1) rfl)) (fun _ h9 => h9) rfl dX2_addByte_1 ?_
  refine lv_if_lt (tgt := 40) hx hb dX2_addByte_4 (by decide) (fun c_4_0 => ?_) (fun c_4_0 => ?_)
  · exact absurd c_4_0 (by decide)
  · have t_4_0 := c_4_0
    try simp only [kb_eq0, kb_ne0, lg_cmp_lt, lg_cmp_le, lg_cmp_gt, lg_cmp_ge, lg_cmp_eq] at t_4_0
    try simp only [Int32.lt_iff_toInt_lt, Int32.le_iff_toInt_le, ← Int32.toInt_inj, Int64.lt_iff_toInt_lt, Int64.le_iff_toInt_le, ← Int64.toInt_inj, Int32.toInt_toInt64, Int32.reduceToInt, Int64.reduceToInt] at t_4_0
    refine lv_aload_n hx hb dX2_addByte_7 rfl (lv_at hl 0 rfl) ?_
    refine va_get (D := D) (ci := 2) (v := .int 0) (C := RX2) (T := TX2) (N := 2) hx hb hts iX2_addByte_X2 hown hK hP 0 rfl rfl 1 (by decide) (hts (.fieldLink RX2 15 "TapeCalculator$LineWriter" "length" "I") (List.mem_of_getElem? (i := 1) rfl)) (fun _ h9 => h9) rfl dX2_addByte_8 ?_
    refine lv_aload_n hx hb dX2_addByte_11 rfl (lv_at hl 0 rfl) ?_
    refine va_get (D := D) (ci := 2) (v := .ref bW) (C := RX2) (T := TX2) (N := 2) hx hb hts iX2_addByte_X2 hown hK hP 0 rfl rfl 0 (by decide) (hts (.fieldLink RX2 9 "TapeCalculator$LineWriter" "row" "[B") (List.mem_of_getElem? (i := 2) rfl)) (fun _ h9 => h9) rfl dX2_addByte_12 ?_
    refine va_alen hx hb hK hP 1 2 rfl rfl (v := 11) rfl dX2_addByte_15 ?_
    refine lv_icmp_ge (tgt := 40) hx hb dX2_addByte_16 (by decide) (fun c_16_1 => ?_) (fun c_16_1 => ?_)
    · exact absurd c_16_1 (by decide)
    · have t_16_1 := c_16_1
      try simp only [kb_eq0, kb_ne0, lg_cmp_lt, lg_cmp_le, lg_cmp_gt, lg_cmp_ge, lg_cmp_eq] at t_16_1
      try simp only [Int32.lt_iff_toInt_lt, Int32.le_iff_toInt_le, ← Int32.toInt_inj, Int64.lt_iff_toInt_lt, Int64.le_iff_toInt_le, ← Int64.toInt_inj, Int32.toInt_toInt64, Int32.reduceToInt, Int64.reduceToInt] at t_16_1
      refine lv_aload_n hx hb dX2_addByte_19 rfl (lv_at hl 0 rfl) ?_
      refine va_get (D := D) (ci := 2) (v := .ref bW) (C := RX2) (T := TX2) (N := 2) hx hb hts iX2_addByte_X2 hown hK hP 0 rfl rfl 0 (by decide) (hts (.fieldLink RX2 9 "TapeCalculator$LineWriter" "row" "[B") (List.mem_of_getElem? (i := 2) rfl)) (fun _ h9 => h9) rfl dX2_addByte_20 ?_
      refine lv_aload_n hx hb dX2_addByte_23 rfl (lv_at hl 0 rfl) ?_
      refine va_get (D := D) (ci := 2) (v := .int 0) (C := RX2) (T := TX2) (N := 2) hx hb hts iX2_addByte_X2 hown hK hP 0 rfl rfl 1 (by decide) (hts (.fieldLink RX2 15 "TapeCalculator$LineWriter" "length" "I") (List.mem_of_getElem? (i := 1) rfl)) (fun _ h9 => h9) rfl dX2_addByte_24 ?_
      refine lv_iload_n hx hb dX2_addByte_27 rfl (lv_at hl 1 rfl) ?_
      refine lv_i2b hx hb dX2_addByte_28 rfl ?_
      refine va_bast hx hb hK hP hD hS 1 2 rfl rfl (vp_in_iff.mpr (by decide)) dX2_addByte_29 (fun H locs hP hD hS => ?_)
      have hP : va_P D vwCl [(aW, .inr (2, [.ref bW, .int 0])), (bW, .inl (cB, 11, .inl (upd fw (0 : Int32).toNatClampNeg (vp_nar .byte b.toInt8.toInt32))))] H := hP
      have hD : va_D A [(aW, .inr (2, [.ref bW, .int 0])), (bW, .inl (cB, 11, .inl (upd fw (0 : Int32).toNatClampNeg (vp_nar .byte b.toInt8.toInt32))))] := hD
      refine lv_aload_n hx hb dX2_addByte_30 rfl (lv_at hl 0 rfl) ?_
      refine lv_dup hx hb dX2_addByte_31 rfl ?_
      refine va_get (D := D) (ci := 2) (v := .int 0) (C := RX2) (T := TX2) (N := 2) hx hb hts iX2_addByte_X2 hown hK hP 0 rfl rfl 1 (by decide) (hts (.fieldLink RX2 15 "TapeCalculator$LineWriter" "length" "I") (List.mem_of_getElem? (i := 1) rfl)) (fun _ h9 => h9) rfl dX2_addByte_32 ?_
      refine lv_iconst (v := 1) hx hb dX2_addByte_35 (by decide) ?_
      refine lv_iadd hx hb dX2_addByte_36 ?_
      refine lv_topi (fun x_3 ex_3 => ?_)
      obtain rfl : x_3 = 1 := ex_3.trans (by decide)
      refine va_put (D := D) (ci := 2) (v := .int 1) (ty := .int) (C := RX2) (T := TX2) (N := 2) hx hb hts iX2_addByte_X2 tyX2 tyX2_ok nmX2 hown hK hP hD hS 0 rfl rfl 1 (by decide) (hts (.fieldLink RX2 15 "TapeCalculator$LineWriter" "length" "I") (List.mem_of_getElem? (i := 1) rfl)) (fun _ h9 => h9) rfl (by decide +kernel) rfl rfl (Nat.le_of_ble_eq_true rfl) dX2_addByte_37 (fun H locs hP hD hS => ?_)
      have hP : va_P D vwCl [(aW, .inr (2, [.ref bW, .int 1])), (bW, .inl (cB, 11, .inl (upd fw (0 : Int32).toNatClampNeg (vp_nar .byte b.toInt8.toInt32))))] H := hP
      have hD : va_D A [(aW, .inr (2, [.ref bW, .int 1])), (bW, .inl (cB, 11, .inl (upd fw (0 : Int32).toNatClampNeg (vp_nar .byte b.toInt8.toInt32))))] := hD
      refine kVret (u := ()) hx hb hr hlocks hS dX2_addByte_40 ?_ (hP.sub [0, 1] rfl) (hD.sub [0, 1] (by decide) rfl)
      exact trivial
set_option maxRecDepth 100000 in
set_option maxHeartbeats 4000000 in
theorem c_addByte_1 (l : Launch) (D : va_G) (cI cL cB cZ cT : ClassId) (sz : Nat) (aW bW : Nat) (fw : Nat → Int32) (b : Int32) : kM (S := Unit) l yX2_addByte wsX2_addByte ({ frames := 0, cells := 0, slots := 0, locals := 0 }) D (kT cI cL cB cZ cT) [.ref aW, .int b] [(aW, .inr (2, [.ref bW, .int 1])), (bW, .inl (cB, 11, .inl fw))] sz eV (fun _ _ => True) (fun _ => [(aW, .inr (2, [.ref bW, .int 2])), (bW, .inl (cB, 11, .inl (upd fw (1 : Int32).toNatClampNeg (vp_nar .byte b.toInt8.toInt32))))]) 0 0 := by
  refine kStart (cc := cX2_addByte) (maxL := 2) (ret := none) (own := RX2) (by decide) rfl rfl (Nat.le_of_ble_eq_true rfl) ?_
  intro p e s m args below meth c A ls hx hb hr hml hown hts hlocks hnm hsz hA hG hP hD hS hl
  have hK := hG.1
  have hl : lv_has ls 2 [(0, .ref aW), (1, .int b)] := hl
  refine lv_aload_n hx hb dX2_addByte_0 rfl (lv_at hl 0 rfl) ?_
  refine va_get (D := D) (ci := 2) (v := .int 1) (C := RX2) (T := TX2) (N := 2) hx hb hts iX2_addByte_X2 hown hK hP 0 rfl rfl 1 (by decide) (hts (.fieldLink RX2 15 "TapeCalculator$LineWriter" "length" "I") (List.mem_of_getElem? (i := 1) rfl)) (fun _ h9 => h9) rfl dX2_addByte_1 ?_
  refine lv_if_lt (tgt := 40) hx hb dX2_addByte_4 (by decide) (fun c_4_0 => ?_) (fun c_4_0 => ?_)
  · exact absurd c_4_0 (by decide)
  · have t_4_0 := c_4_0
    try simp only [kb_eq0, kb_ne0, lg_cmp_lt, lg_cmp_le, lg_cmp_gt, lg_cmp_ge, lg_cmp_eq] at t_4_0
    try simp only [Int32.lt_iff_toInt_lt, Int32.le_iff_toInt_le, ← Int32.toInt_inj, Int64.lt_iff_toInt_lt, Int64.le_iff_toInt_le, ← Int64.toInt_inj, Int32.toInt_toInt64, Int32.reduceToInt, Int64.reduceToInt] at t_4_0
    refine lv_aload_n hx hb dX2_addByte_7 rfl (lv_at hl 0 rfl) ?_
    refine va_get (D := D) (ci := 2) (v := .int 1) (C := RX2) (T := TX2) (N := 2) hx hb hts iX2_addByte_X2 hown hK hP 0 rfl rfl 1 (by decide) (hts (.fieldLink RX2 15 "TapeCalculator$LineWriter" "length" "I") (List.mem_of_getElem? (i := 1) rfl)) (fun _ h9 => h9) rfl dX2_addByte_8 ?_
    refine lv_aload_n hx hb dX2_addByte_11 rfl (lv_at hl 0 rfl) ?_
    refine va_get (D := D) (ci := 2) (v := .ref bW) (C := RX2) (T := TX2) (N := 2) hx hb hts iX2_addByte_X2 hown hK hP 0 rfl rfl 0 (by decide) (hts (.fieldLink RX2 9 "TapeCalculator$LineWriter" "row" "[B") (List.mem_of_getElem? (i := 2) rfl)) (fun _ h9 => h9) rfl dX2_addByte_12 ?_
    refine va_alen hx hb hK hP 1 2 rfl rfl (v := 11) rfl dX2_addByte_15 ?_
    refine lv_icmp_ge (tgt := 40) hx hb dX2_addByte_16 (by decide) (fun c_16_1 => ?_) (fun c_16_1 => ?_)
    · exact absurd c_16_1 (by decide)
    · have t_16_1 := c_16_1
      try simp only [kb_eq0, kb_ne0, lg_cmp_lt, lg_cmp_le, lg_cmp_gt, lg_cmp_ge, lg_cmp_eq] at t_16_1
      try simp only [Int32.lt_iff_toInt_lt, Int32.le_iff_toInt_le, ← Int32.toInt_inj, Int64.lt_iff_toInt_lt, Int64.le_iff_toInt_le, ← Int64.toInt_inj, Int32.toInt_toInt64, Int32.reduceToInt, Int64.reduceToInt] at t_16_1
      refine lv_aload_n hx hb dX2_addByte_19 rfl (lv_at hl 0 rfl) ?_
      refine va_get (D := D) (ci := 2) (v := .ref bW) (C := RX2) (T := TX2) (N := 2) hx hb hts iX2_addByte_X2 hown hK hP 0 rfl rfl 0 (by decide) (hts (.fieldLink RX2 9 "TapeCalculator$LineWriter" "row" "[B") (List.mem_of_getElem? (i := 2) rfl)) (fun _ h9 => h9) rfl dX2_addByte_20 ?_
      refine lv_aload_n hx hb dX2_addByte_23 rfl (lv_at hl 0 rfl) ?_
      refine va_get (D := D) (ci := 2) (v := .int 1) (C := RX2) (T := TX2) (N := 2) hx hb hts iX2_addByte_X2 hown hK hP 0 rfl rfl 1 (by decide) (hts (.fieldLink RX2 15 "TapeCalculator$LineWriter" "length" "I") (List.mem_of_getElem? (i := 1) rfl)) (fun _ h9 => h9) rfl dX2_addByte_24 ?_
      refine lv_iload_n hx hb dX2_addByte_27 rfl (lv_at hl 1 rfl) ?_
      refine lv_i2b hx hb dX2_addByte_28 rfl ?_
      refine va_bast hx hb hK hP hD hS 1 2 rfl rfl (vp_in_iff.mpr (by decide)) dX2_addByte_29 (fun H locs hP hD hS => ?_)
      have hP : va_P D vwCl [(aW, .inr (2, [.ref bW, .int 1])), (bW, .inl (cB, 11, .inl (upd fw (1 : Int32).toNatClampNeg (vp_nar .byte b.toInt8.toInt32))))] H := hP
      have hD : va_D A [(aW, .inr (2, [.ref bW, .int 1])), (bW, .inl (cB, 11, .inl (upd fw (1 : Int32).toNatClampNeg (vp_nar .byte b.toInt8.toInt32))))] := hD
      refine lv_aload_n hx hb dX2_addByte_30 rfl (lv_at hl 0 rfl) ?_
      refine lv_dup hx hb dX2_addByte_31 rfl ?_
      refine va_get (D := D) (ci := 2) (v := .int 1) (C := RX2) (T := TX2) (N := 2) hx hb hts iX2_addByte_X2 hown hK hP 0 rfl rfl 1 (by decide) (hts (.fieldLink RX2 15 "TapeCalculator$LineWriter" "length" "I") (List.mem_of_getElem? (i := 1) rfl)) (fun _ h9 => h9) rfl dX2_addByte_32 ?_
      refine lv_iconst (v := 1) hx hb dX2_addByte_35 (by decide) ?_
      refine lv_iadd hx hb dX2_addByte_36 ?_
      refine lv_topi (fun x_3 ex_3 => ?_)
      obtain rfl : x_3 = 2 := ex_3.trans (by decide)
      refine va_put (D := D) (ci := 2) (v := .int 2) (ty := .int) (C := RX2) (T := TX2) (N := 2) hx hb hts iX2_addByte_X2 tyX2 tyX2_ok nmX2 hown hK hP hD hS 0 rfl rfl 1 (by decide) (hts (.fieldLink RX2 15 "TapeCalculator$LineWriter" "length" "I") (List.mem_of_getElem? (i := 1) rfl)) (fun _ h9 => h9) rfl (by decide +kernel) rfl rfl (Nat.le_of_ble_eq_true rfl) dX2_addByte_37 (fun H locs hP hD hS => ?_)
      have hP : va_P D vwCl [(aW, .inr (2, [.ref bW, .int 2])), (bW, .inl (cB, 11, .inl (upd fw (1 : Int32).toNatClampNeg (vp_nar .byte b.toInt8.toInt32))))] H := hP
      have hD : va_D A [(aW, .inr (2, [.ref bW, .int 2])), (bW, .inl (cB, 11, .inl (upd fw (1 : Int32).toNatClampNeg (vp_nar .byte b.toInt8.toInt32))))] := hD
      refine kVret (u := ()) hx hb hr hlocks hS dX2_addByte_40 ?_ (hP.sub [0, 1] rfl) (hD.sub [0, 1] (by decide) rfl)
      exact trivial
set_option maxRecDepth 100000 in
set_option maxHeartbeats 4000000 in
theorem c_addByte_2 (l : Launch) (D : va_G) (cI cL cB cZ cT : ClassId) (sz : Nat) (aW bW : Nat) (fw : Nat → Int32) (b : Int32) : kM (S := Unit) l yX2_addByte wsX2_addByte ({ frames := 0, cells := 0, slots := 0, locals := 0 }) D (kT cI cL cB cZ cT) [.ref aW, .int b] [(aW, .inr (2, [.ref bW, .int 2])), (bW, .inl (cB, 11, .inl fw))] sz eV (fun _ _ => True) (fun _ => [(aW, .inr (2, [.ref bW, .int 3])), (bW, .inl (cB, 11, .inl (upd fw (2 : Int32).toNatClampNeg (vp_nar .byte b.toInt8.toInt32))))]) 0 0 := by
  refine kStart (cc := cX2_addByte) (maxL := 2) (ret := none) (own := RX2) (by decide) rfl rfl (Nat.le_of_ble_eq_true rfl) ?_
  intro p e s m args below meth c A ls hx hb hr hml hown hts hlocks hnm hsz hA hG hP hD hS hl
  have hK := hG.1
  have hl : lv_has ls 2 [(0, .ref aW), (1, .int b)] := hl
  refine lv_aload_n hx hb dX2_addByte_0 rfl (lv_at hl 0 rfl) ?_
  refine va_get (D := D) (ci := 2) (v := .int 2) (C := RX2) (T := TX2) (N := 2) hx hb hts iX2_addByte_X2 hown hK hP 0 rfl rfl 1 (by decide) (hts (.fieldLink RX2 15 "TapeCalculator$LineWriter" "length" "I") (List.mem_of_getElem? (i := 1) rfl)) (fun _ h9 => h9) rfl dX2_addByte_1 ?_
  refine lv_if_lt (tgt := 40) hx hb dX2_addByte_4 (by decide) (fun c_4_0 => ?_) (fun c_4_0 => ?_)
  · exact absurd c_4_0 (by decide)
  · have t_4_0 := c_4_0
    try simp only [kb_eq0, kb_ne0, lg_cmp_lt, lg_cmp_le, lg_cmp_gt, lg_cmp_ge, lg_cmp_eq] at t_4_0
    try simp only [Int32.lt_iff_toInt_lt, Int32.le_iff_toInt_le, ← Int32.toInt_inj, Int64.lt_iff_toInt_lt, Int64.le_iff_toInt_le, ← Int64.toInt_inj, Int32.toInt_toInt64, Int32.reduceToInt, Int64.reduceToInt] at t_4_0
    refine lv_aload_n hx hb dX2_addByte_7 rfl (lv_at hl 0 rfl) ?_
    refine va_get (D := D) (ci := 2) (v := .int 2) (C := RX2) (T := TX2) (N := 2) hx hb hts iX2_addByte_X2 hown hK hP 0 rfl rfl 1 (by decide) (hts (.fieldLink RX2 15 "TapeCalculator$LineWriter" "length" "I") (List.mem_of_getElem? (i := 1) rfl)) (fun _ h9 => h9) rfl dX2_addByte_8 ?_
    refine lv_aload_n hx hb dX2_addByte_11 rfl (lv_at hl 0 rfl) ?_
    refine va_get (D := D) (ci := 2) (v := .ref bW) (C := RX2) (T := TX2) (N := 2) hx hb hts iX2_addByte_X2 hown hK hP 0 rfl rfl 0 (by decide) (hts (.fieldLink RX2 9 "TapeCalculator$LineWriter" "row" "[B") (List.mem_of_getElem? (i := 2) rfl)) (fun _ h9 => h9) rfl dX2_addByte_12 ?_
    refine va_alen hx hb hK hP 1 2 rfl rfl (v := 11) rfl dX2_addByte_15 ?_
    refine lv_icmp_ge (tgt := 40) hx hb dX2_addByte_16 (by decide) (fun c_16_1 => ?_) (fun c_16_1 => ?_)
    · exact absurd c_16_1 (by decide)
    · have t_16_1 := c_16_1
      try simp only [kb_eq0, kb_ne0, lg_cmp_lt, lg_cmp_le, lg_cmp_gt, lg_cmp_ge, lg_cmp_eq] at t_16_1
      try simp only [Int32.lt_iff_toInt_lt, Int32.le_iff_toInt_le, ← Int32.toInt_inj, Int64.lt_iff_toInt_lt, Int64.le_iff_toInt_le, ← Int64.toInt_inj, Int32.toInt_toInt64, Int32.reduceToInt, Int64.reduceToInt] at t_16_1
      refine lv_aload_n hx hb dX2_addByte_19 rfl (lv_at hl 0 rfl) ?_
      refine va_get (D := D) (ci := 2) (v := .ref bW) (C := RX2) (T := TX2) (N := 2) hx hb hts iX2_addByte_X2 hown hK hP 0 rfl rfl 0 (by decide) (hts (.fieldLink RX2 9 "TapeCalculator$LineWriter" "row" "[B") (List.mem_of_getElem? (i := 2) rfl)) (fun _ h9 => h9) rfl dX2_addByte_20 ?_
      refine lv_aload_n hx hb dX2_addByte_23 rfl (lv_at hl 0 rfl) ?_
      refine va_get (D := D) (ci := 2) (v := .int 2) (C := RX2) (T := TX2) (N := 2) hx hb hts iX2_addByte_X2 hown hK hP 0 rfl rfl 1 (by decide) (hts (.fieldLink RX2 15 "TapeCalculator$LineWriter" "length" "I") (List.mem_of_getElem? (i := 1) rfl)) (fun _ h9 => h9) rfl dX2_addByte_24 ?_
      refine lv_iload_n hx hb dX2_addByte_27 rfl (lv_at hl 1 rfl) ?_
      refine lv_i2b hx hb dX2_addByte_28 rfl ?_
      refine va_bast hx hb hK hP hD hS 1 2 rfl rfl (vp_in_iff.mpr (by decide)) dX2_addByte_29 (fun H locs hP hD hS => ?_)
      have hP : va_P D vwCl [(aW, .inr (2, [.ref bW, .int 2])), (bW, .inl (cB, 11, .inl (upd fw (2 : Int32).toNatClampNeg (vp_nar .byte b.toInt8.toInt32))))] H := hP
      have hD : va_D A [(aW, .inr (2, [.ref bW, .int 2])), (bW, .inl (cB, 11, .inl (upd fw (2 : Int32).toNatClampNeg (vp_nar .byte b.toInt8.toInt32))))] := hD
      refine lv_aload_n hx hb dX2_addByte_30 rfl (lv_at hl 0 rfl) ?_
      refine lv_dup hx hb dX2_addByte_31 rfl ?_
      refine va_get (D := D) (ci := 2) (v := .int 2) (C := RX2) (T := TX2) (N := 2) hx hb hts iX2_addByte_X2 hown hK hP 0 rfl rfl 1 (by decide) (hts (.fieldLink RX2 15 "TapeCalculator$LineWriter" "length" "I") (List.mem_of_getElem? (i := 1) rfl)) (fun _ h9 => h9) rfl dX2_addByte_32 ?_
      refine lv_iconst (v := 1) hx hb dX2_addByte_35 (by decide) ?_
      refine lv_iadd hx hb dX2_addByte_36 ?_
      refine lv_topi (fun x_3 ex_3 => ?_)
      obtain rfl : x_3 = 3 := ex_3.trans (by decide)
      refine va_put (D := D) (ci := 2) (v := .int 3) (ty := .int) (C := RX2) (T := TX2) (N := 2) hx hb hts iX2_addByte_X2 tyX2 tyX2_ok nmX2 hown hK hP hD hS 0 rfl rfl 1 (by decide) (hts (.fieldLink RX2 15 "TapeCalculator$LineWriter" "length" "I") (List.mem_of_getElem? (i := 1) rfl)) (fun _ h9 => h9) rfl (by decide +kernel) rfl rfl (Nat.le_of_ble_eq_true rfl) dX2_addByte_37 (fun H locs hP hD hS => ?_)
      have hP : va_P D vwCl [(aW, .inr (2, [.ref bW, .int 3])), (bW, .inl (cB, 11, .inl (upd fw (2 : Int32).toNatClampNeg (vp_nar .byte b.toInt8.toInt32))))] H := hP
      have hD : va_D A [(aW, .inr (2, [.ref bW, .int 3])), (bW, .inl (cB, 11, .inl (upd fw (2 : Int32).toNatClampNeg (vp_nar .byte b.toInt8.toInt32))))] := hD
      refine kVret (u := ()) hx hb hr hlocks hS dX2_addByte_40 ?_ (hP.sub [0, 1] rfl) (hD.sub [0, 1] (by decide) rfl)
      exact trivial
set_option maxRecDepth 100000 in
set_option maxHeartbeats 4000000 in
theorem c_addByte_3 (l : Launch) (D : va_G) (cI cL cB cZ cT : ClassId) (sz : Nat) (aW bW : Nat) (fw : Nat → Int32) (b : Int32) : kM (S := Unit) l yX2_addByte wsX2_addByte ({ frames := 0, cells := 0, slots := 0, locals := 0 }) D (kT cI cL cB cZ cT) [.ref aW, .int b] [(aW, .inr (2, [.ref bW, .int 3])), (bW, .inl (cB, 11, .inl fw))] sz eV (fun _ _ => True) (fun _ => [(aW, .inr (2, [.ref bW, .int 4])), (bW, .inl (cB, 11, .inl (upd fw (3 : Int32).toNatClampNeg (vp_nar .byte b.toInt8.toInt32))))]) 0 0 := by
  refine kStart (cc := cX2_addByte) (maxL := 2) (ret := none) (own := RX2) (by decide) rfl rfl (Nat.le_of_ble_eq_true rfl) ?_
  intro p e s m args below meth c A ls hx hb hr hml hown hts hlocks hnm hsz hA hG hP hD hS hl
  have hK := hG.1
  have hl : lv_has ls 2 [(0, .ref aW), (1, .int b)] := hl
  refine lv_aload_n hx hb dX2_addByte_0 rfl (lv_at hl 0 rfl) ?_
  refine va_get (D := D) (ci := 2) (v := .int 3) (C := RX2) (T := TX2) (N := 2) hx hb hts iX2_addByte_X2 hown hK hP 0 rfl rfl 1 (by decide) (hts (.fieldLink RX2 15 "TapeCalculator$LineWriter" "length" "I") (List.mem_of_getElem? (i := 1) rfl)) (fun _ h9 => h9) rfl dX2_addByte_1 ?_
  refine lv_if_lt (tgt := 40) hx hb dX2_addByte_4 (by decide) (fun c_4_0 => ?_) (fun c_4_0 => ?_)
  · exact absurd c_4_0 (by decide)
  · have t_4_0 := c_4_0
    try simp only [kb_eq0, kb_ne0, lg_cmp_lt, lg_cmp_le, lg_cmp_gt, lg_cmp_ge, lg_cmp_eq] at t_4_0
    try simp only [Int32.lt_iff_toInt_lt, Int32.le_iff_toInt_le, ← Int32.toInt_inj, Int64.lt_iff_toInt_lt, Int64.le_iff_toInt_le, ← Int64.toInt_inj, Int32.toInt_toInt64, Int32.reduceToInt, Int64.reduceToInt] at t_4_0
    refine lv_aload_n hx hb dX2_addByte_7 rfl (lv_at hl 0 rfl) ?_
    refine va_get (D := D) (ci := 2) (v := .int 3) (C := RX2) (T := TX2) (N := 2) hx hb hts iX2_addByte_X2 hown hK hP 0 rfl rfl 1 (by decide) (hts (.fieldLink RX2 15 "TapeCalculator$LineWriter" "length" "I") (List.mem_of_getElem? (i := 1) rfl)) (fun _ h9 => h9) rfl dX2_addByte_8 ?_
    refine lv_aload_n hx hb dX2_addByte_11 rfl (lv_at hl 0 rfl) ?_
    refine va_get (D := D) (ci := 2) (v := .ref bW) (C := RX2) (T := TX2) (N := 2) hx hb hts iX2_addByte_X2 hown hK hP 0 rfl rfl 0 (by decide) (hts (.fieldLink RX2 9 "TapeCalculator$LineWriter" "row" "[B") (List.mem_of_getElem? (i := 2) rfl)) (fun _ h9 => h9) rfl dX2_addByte_12 ?_
    refine va_alen hx hb hK hP 1 2 rfl rfl (v := 11) rfl dX2_addByte_15 ?_
    refine lv_icmp_ge (tgt := 40) hx hb dX2_addByte_16 (by decide) (fun c_16_1 => ?_) (fun c_16_1 => ?_)
    · exact absurd c_16_1 (by decide)
    · have t_16_1 := c_16_1
      try simp only [kb_eq0, kb_ne0, lg_cmp_lt, lg_cmp_le, lg_cmp_gt, lg_cmp_ge, lg_cmp_eq] at t_16_1
      try simp only [Int32.lt_iff_toInt_lt, Int32.le_iff_toInt_le, ← Int32.toInt_inj, Int64.lt_iff_toInt_lt, Int64.le_iff_toInt_le, ← Int64.toInt_inj, Int32.toInt_toInt64, Int32.reduceToInt, Int64.reduceToInt] at t_16_1
      refine lv_aload_n hx hb dX2_addByte_19 rfl (lv_at hl 0 rfl) ?_
      refine va_get (D := D) (ci := 2) (v := .ref bW) (C := RX2) (T := TX2) (N := 2) hx hb hts iX2_addByte_X2 hown hK hP 0 rfl rfl 0 (by decide) (hts (.fieldLink RX2 9 "TapeCalculator$LineWriter" "row" "[B") (List.mem_of_getElem? (i := 2) rfl)) (fun _ h9 => h9) rfl dX2_addByte_20 ?_
      refine lv_aload_n hx hb dX2_addByte_23 rfl (lv_at hl 0 rfl) ?_
      refine va_get (D := D) (ci := 2) (v := .int 3) (C := RX2) (T := TX2) (N := 2) hx hb hts iX2_addByte_X2 hown hK hP 0 rfl rfl 1 (by decide) (hts (.fieldLink RX2 15 "TapeCalculator$LineWriter" "length" "I") (List.mem_of_getElem? (i := 1) rfl)) (fun _ h9 => h9) rfl dX2_addByte_24 ?_
      refine lv_iload_n hx hb dX2_addByte_27 rfl (lv_at hl 1 rfl) ?_
      refine lv_i2b hx hb dX2_addByte_28 rfl ?_
      refine va_bast hx hb hK hP hD hS 1 2 rfl rfl (vp_in_iff.mpr (by decide)) dX2_addByte_29 (fun H locs hP hD hS => ?_)
      have hP : va_P D vwCl [(aW, .inr (2, [.ref bW, .int 3])), (bW, .inl (cB, 11, .inl (upd fw (3 : Int32).toNatClampNeg (vp_nar .byte b.toInt8.toInt32))))] H := hP
      have hD : va_D A [(aW, .inr (2, [.ref bW, .int 3])), (bW, .inl (cB, 11, .inl (upd fw (3 : Int32).toNatClampNeg (vp_nar .byte b.toInt8.toInt32))))] := hD
      refine lv_aload_n hx hb dX2_addByte_30 rfl (lv_at hl 0 rfl) ?_
      refine lv_dup hx hb dX2_addByte_31 rfl ?_
      refine va_get (D := D) (ci := 2) (v := .int 3) (C := RX2) (T := TX2) (N := 2) hx hb hts iX2_addByte_X2 hown hK hP 0 rfl rfl 1 (by decide) (hts (.fieldLink RX2 15 "TapeCalculator$LineWriter" "length" "I") (List.mem_of_getElem? (i := 1) rfl)) (fun _ h9 => h9) rfl dX2_addByte_32 ?_
      refine lv_iconst (v := 1) hx hb dX2_addByte_35 (by decide) ?_
      refine lv_iadd hx hb dX2_addByte_36 ?_
      refine lv_topi (fun x_3 ex_3 => ?_)
      obtain rfl : x_3 = 4 := ex_3.trans (by decide)
      refine va_put (D := D) (ci := 2) (v := .int 4) (ty := .int) (C := RX2) (T := TX2) (N := 2) hx hb hts iX2_addByte_X2 tyX2 tyX2_ok nmX2 hown hK hP hD hS 0 rfl rfl 1 (by decide) (hts (.fieldLink RX2 15 "TapeCalculator$LineWriter" "length" "I") (List.mem_of_getElem? (i := 1) rfl)) (fun _ h9 => h9) rfl (by decide +kernel) rfl rfl (Nat.le_of_ble_eq_true rfl) dX2_addByte_37 (fun H locs hP hD hS => ?_)
      have hP : va_P D vwCl [(aW, .inr (2, [.ref bW, .int 4])), (bW, .inl (cB, 11, .inl (upd fw (3 : Int32).toNatClampNeg (vp_nar .byte b.toInt8.toInt32))))] H := hP
      have hD : va_D A [(aW, .inr (2, [.ref bW, .int 4])), (bW, .inl (cB, 11, .inl (upd fw (3 : Int32).toNatClampNeg (vp_nar .byte b.toInt8.toInt32))))] := hD
      refine kVret (u := ()) hx hb hr hlocks hS dX2_addByte_40 ?_ (hP.sub [0, 1] rfl) (hD.sub [0, 1] (by decide) rfl)
      exact trivial
set_option maxRecDepth 100000 in
set_option maxHeartbeats 4000000 in
theorem c_addByte_4 (l : Launch) (D : va_G) (cI cL cB cZ cT : ClassId) (sz : Nat) (aW bW : Nat) (fw : Nat → Int32) (b : Int32) : kM (S := Unit) l yX2_addByte wsX2_addByte ({ frames := 0, cells := 0, slots := 0, locals := 0 }) D (kT cI cL cB cZ cT) [.ref aW, .int b] [(aW, .inr (2, [.ref bW, .int 4])), (bW, .inl (cB, 11, .inl fw))] sz eV (fun _ _ => True) (fun _ => [(aW, .inr (2, [.ref bW, .int 5])), (bW, .inl (cB, 11, .inl (upd fw (4 : Int32).toNatClampNeg (vp_nar .byte b.toInt8.toInt32))))]) 0 0 := by
  refine kStart (cc := cX2_addByte) (maxL := 2) (ret := none) (own := RX2) (by decide) rfl rfl (Nat.le_of_ble_eq_true rfl) ?_
  intro p e s m args below meth c A ls hx hb hr hml hown hts hlocks hnm hsz hA hG hP hD hS hl
  have hK := hG.1
  have hl : lv_has ls 2 [(0, .ref aW), (1, .int b)] := hl
  refine lv_aload_n hx hb dX2_addByte_0 rfl (lv_at hl 0 rfl) ?_
  refine va_get (D := D) (ci := 2) (v := .int 4) (C := RX2) (T := TX2) (N := 2) hx hb hts iX2_addByte_X2 hown hK hP 0 rfl rfl 1 (by decide) (hts (.fieldLink RX2 15 "TapeCalculator$LineWriter" "length" "I") (List.mem_of_getElem? (i := 1) rfl)) (fun _ h9 => h9) rfl dX2_addByte_1 ?_
  refine lv_if_lt (tgt := 40) hx hb dX2_addByte_4 (by decide) (fun c_4_0 => ?_) (fun c_4_0 => ?_)
  · exact absurd c_4_0 (by decide)
  · have t_4_0 := c_4_0
    try simp only [kb_eq0, kb_ne0, lg_cmp_lt, lg_cmp_le, lg_cmp_gt, lg_cmp_ge, lg_cmp_eq] at t_4_0
    try simp only [Int32.lt_iff_toInt_lt, Int32.le_iff_toInt_le, ← Int32.toInt_inj, Int64.lt_iff_toInt_lt, Int64.le_iff_toInt_le, ← Int64.toInt_inj, Int32.toInt_toInt64, Int32.reduceToInt, Int64.reduceToInt] at t_4_0
    refine lv_aload_n hx hb dX2_addByte_7 rfl (lv_at hl 0 rfl) ?_
    refine va_get (D := D) (ci := 2) (v := .int 4) (C := RX2) (T := TX2) (N := 2) hx hb hts iX2_addByte_X2 hown hK hP 0 rfl rfl 1 (by decide) (hts (.fieldLink RX2 15 "TapeCalculator$LineWriter" "length" "I") (List.mem_of_getElem? (i := 1) rfl)) (fun _ h9 => h9) rfl dX2_addByte_8 ?_
    refine lv_aload_n hx hb dX2_addByte_11 rfl (lv_at hl 0 rfl) ?_
    refine va_get (D := D) (ci := 2) (v := .ref bW) (C := RX2) (T := TX2) (N := 2) hx hb hts iX2_addByte_X2 hown hK hP 0 rfl rfl 0 (by decide) (hts (.fieldLink RX2 9 "TapeCalculator$LineWriter" "row" "[B") (List.mem_of_getElem? (i := 2) rfl)) (fun _ h9 => h9) rfl dX2_addByte_12 ?_
    refine va_alen hx hb hK hP 1 2 rfl rfl (v := 11) rfl dX2_addByte_15 ?_
    refine lv_icmp_ge (tgt := 40) hx hb dX2_addByte_16 (by decide) (fun c_16_1 => ?_) (fun c_16_1 => ?_)
    · exact absurd c_16_1 (by decide)
    · have t_16_1 := c_16_1
      try simp only [kb_eq0, kb_ne0, lg_cmp_lt, lg_cmp_le, lg_cmp_gt, lg_cmp_ge, lg_cmp_eq] at t_16_1
      try simp only [Int32.lt_iff_toInt_lt, Int32.le_iff_toInt_le, ← Int32.toInt_inj, Int64.lt_iff_toInt_lt, Int64.le_iff_toInt_le, ← Int64.toInt_inj, Int32.toInt_toInt64, Int32.reduceToInt, Int64.reduceToInt] at t_16_1
      refine lv_aload_n hx hb dX2_addByte_19 rfl (lv_at hl 0 rfl) ?_
      refine va_get (D := D) (ci := 2) (v := .ref bW) (C := RX2) (T := TX2) (N := 2) hx hb hts iX2_addByte_X2 hown hK hP 0 rfl rfl 0 (by decide) (hts (.fieldLink RX2 9 "TapeCalculator$LineWriter" "row" "[B") (List.mem_of_getElem? (i := 2) rfl)) (fun _ h9 => h9) rfl dX2_addByte_20 ?_
      refine lv_aload_n hx hb dX2_addByte_23 rfl (lv_at hl 0 rfl) ?_
      refine va_get (D := D) (ci := 2) (v := .int 4) (C := RX2) (T := TX2) (N := 2) hx hb hts iX2_addByte_X2 hown hK hP 0 rfl rfl 1 (by decide) (hts (.fieldLink RX2 15 "TapeCalculator$LineWriter" "length" "I") (List.mem_of_getElem? (i := 1) rfl)) (fun _ h9 => h9) rfl dX2_addByte_24 ?_
      refine lv_iload_n hx hb dX2_addByte_27 rfl (lv_at hl 1 rfl) ?_
      refine lv_i2b hx hb dX2_addByte_28 rfl ?_
      refine va_bast hx hb hK hP hD hS 1 2 rfl rfl (vp_in_iff.mpr (by decide)) dX2_addByte_29 (fun H locs hP hD hS => ?_)
      have hP : va_P D vwCl [(aW, .inr (2, [.ref bW, .int 4])), (bW, .inl (cB, 11, .inl (upd fw (4 : Int32).toNatClampNeg (vp_nar .byte b.toInt8.toInt32))))] H := hP
      have hD : va_D A [(aW, .inr (2, [.ref bW, .int 4])), (bW, .inl (cB, 11, .inl (upd fw (4 : Int32).toNatClampNeg (vp_nar .byte b.toInt8.toInt32))))] := hD
      refine lv_aload_n hx hb dX2_addByte_30 rfl (lv_at hl 0 rfl) ?_
      refine lv_dup hx hb dX2_addByte_31 rfl ?_
      refine va_get (D := D) (ci := 2) (v := .int 4) (C := RX2) (T := TX2) (N := 2) hx hb hts iX2_addByte_X2 hown hK hP 0 rfl rfl 1 (by decide) (hts (.fieldLink RX2 15 "TapeCalculator$LineWriter" "length" "I") (List.mem_of_getElem? (i := 1) rfl)) (fun _ h9 => h9) rfl dX2_addByte_32 ?_
      refine lv_iconst (v := 1) hx hb dX2_addByte_35 (by decide) ?_
      refine lv_iadd hx hb dX2_addByte_36 ?_
      refine lv_topi (fun x_3 ex_3 => ?_)
      obtain rfl : x_3 = 5 := ex_3.trans (by decide)
      refine va_put (D := D) (ci := 2) (v := .int 5) (ty := .int) (C := RX2) (T := TX2) (N := 2) hx hb hts iX2_addByte_X2 tyX2 tyX2_ok nmX2 hown hK hP hD hS 0 rfl rfl 1 (by decide) (hts (.fieldLink RX2 15 "TapeCalculator$LineWriter" "length" "I") (List.mem_of_getElem? (i := 1) rfl)) (fun _ h9 => h9) rfl (by decide +kernel) rfl rfl (Nat.le_of_ble_eq_true rfl) dX2_addByte_37 (fun H locs hP hD hS => ?_)
      have hP : va_P D vwCl [(aW, .inr (2, [.ref bW, .int 5])), (bW, .inl (cB, 11, .inl (upd fw (4 : Int32).toNatClampNeg (vp_nar .byte b.toInt8.toInt32))))] H := hP
      have hD : va_D A [(aW, .inr (2, [.ref bW, .int 5])), (bW, .inl (cB, 11, .inl (upd fw (4 : Int32).toNatClampNeg (vp_nar .byte b.toInt8.toInt32))))] := hD
      refine kVret (u := ()) hx hb hr hlocks hS dX2_addByte_40 ?_ (hP.sub [0, 1] rfl) (hD.sub [0, 1] (by decide) rfl)
      exact trivial
set_option maxRecDepth 100000 in
set_option maxHeartbeats 4000000 in
theorem c_addByte_5 (l : Launch) (D : va_G) (cI cL cB cZ cT : ClassId) (sz : Nat) (aW bW : Nat) (fw : Nat → Int32) (b : Int32) : kM (S := Unit) l yX2_addByte wsX2_addByte ({ frames := 0, cells := 0, slots := 0, locals := 0 }) D (kT cI cL cB cZ cT) [.ref aW, .int b] [(aW, .inr (2, [.ref bW, .int 5])), (bW, .inl (cB, 11, .inl fw))] sz eV (fun _ _ => True) (fun _ => [(aW, .inr (2, [.ref bW, .int 6])), (bW, .inl (cB, 11, .inl (upd fw (5 : Int32).toNatClampNeg (vp_nar .byte b.toInt8.toInt32))))]) 0 0 := by
  refine kStart (cc := cX2_addByte) (maxL := 2) (ret := none) (own := RX2) (by decide) rfl rfl (Nat.le_of_ble_eq_true rfl) ?_
  intro p e s m args below meth c A ls hx hb hr hml hown hts hlocks hnm hsz hA hG hP hD hS hl
  have hK := hG.1
  have hl : lv_has ls 2 [(0, .ref aW), (1, .int b)] := hl
  refine lv_aload_n hx hb dX2_addByte_0 rfl (lv_at hl 0 rfl) ?_
  refine va_get (D := D) (ci := 2) (v := .int 5) (C := RX2) (T := TX2) (N := 2) hx hb hts iX2_addByte_X2 hown hK hP 0 rfl rfl 1 (by decide) (hts (.fieldLink RX2 15 "TapeCalculator$LineWriter" "length" "I") (List.mem_of_getElem? (i := 1) rfl)) (fun _ h9 => h9) rfl dX2_addByte_1 ?_
  refine lv_if_lt (tgt := 40) hx hb dX2_addByte_4 (by decide) (fun c_4_0 => ?_) (fun c_4_0 => ?_)
  · exact absurd c_4_0 (by decide)
  · have t_4_0 := c_4_0
    try simp only [kb_eq0, kb_ne0, lg_cmp_lt, lg_cmp_le, lg_cmp_gt, lg_cmp_ge, lg_cmp_eq] at t_4_0
    try simp only [Int32.lt_iff_toInt_lt, Int32.le_iff_toInt_le, ← Int32.toInt_inj, Int64.lt_iff_toInt_lt, Int64.le_iff_toInt_le, ← Int64.toInt_inj, Int32.toInt_toInt64, Int32.reduceToInt, Int64.reduceToInt] at t_4_0
    refine lv_aload_n hx hb dX2_addByte_7 rfl (lv_at hl 0 rfl) ?_
    refine va_get (D := D) (ci := 2) (v := .int 5) (C := RX2) (T := TX2) (N := 2) hx hb hts iX2_addByte_X2 hown hK hP 0 rfl rfl 1 (by decide) (hts (.fieldLink RX2 15 "TapeCalculator$LineWriter" "length" "I") (List.mem_of_getElem? (i := 1) rfl)) (fun _ h9 => h9) rfl dX2_addByte_8 ?_
    refine lv_aload_n hx hb dX2_addByte_11 rfl (lv_at hl 0 rfl) ?_
    refine va_get (D := D) (ci := 2) (v := .ref bW) (C := RX2) (T := TX2) (N := 2) hx hb hts iX2_addByte_X2 hown hK hP 0 rfl rfl 0 (by decide) (hts (.fieldLink RX2 9 "TapeCalculator$LineWriter" "row" "[B") (List.mem_of_getElem? (i := 2) rfl)) (fun _ h9 => h9) rfl dX2_addByte_12 ?_
    refine va_alen hx hb hK hP 1 2 rfl rfl (v := 11) rfl dX2_addByte_15 ?_
    refine lv_icmp_ge (tgt := 40) hx hb dX2_addByte_16 (by decide) (fun c_16_1 => ?_) (fun c_16_1 => ?_)
    · exact absurd c_16_1 (by decide)
    · have t_16_1 := c_16_1
      try simp only [kb_eq0, kb_ne0, lg_cmp_lt, lg_cmp_le, lg_cmp_gt, lg_cmp_ge, lg_cmp_eq] at t_16_1
      try simp only [Int32.lt_iff_toInt_lt, Int32.le_iff_toInt_le, ← Int32.toInt_inj, Int64.lt_iff_toInt_lt, Int64.le_iff_toInt_le, ← Int64.toInt_inj, Int32.toInt_toInt64, Int32.reduceToInt, Int64.reduceToInt] at t_16_1
      refine lv_aload_n hx hb dX2_addByte_19 rfl (lv_at hl 0 rfl) ?_
      refine va_get (D := D) (ci := 2) (v := .ref bW) (C := RX2) (T := TX2) (N := 2) hx hb hts iX2_addByte_X2 hown hK hP 0 rfl rfl 0 (by decide) (hts (.fieldLink RX2 9 "TapeCalculator$LineWriter" "row" "[B") (List.mem_of_getElem? (i := 2) rfl)) (fun _ h9 => h9) rfl dX2_addByte_20 ?_
      refine lv_aload_n hx hb dX2_addByte_23 rfl (lv_at hl 0 rfl) ?_
      refine va_get (D := D) (ci := 2) (v := .int 5) (C := RX2) (T := TX2) (N := 2) hx hb hts iX2_addByte_X2 hown hK hP 0 rfl rfl 1 (by decide) (hts (.fieldLink RX2 15 "TapeCalculator$LineWriter" "length" "I") (List.mem_of_getElem? (i := 1) rfl)) (fun _ h9 => h9) rfl dX2_addByte_24 ?_
      refine lv_iload_n hx hb dX2_addByte_27 rfl (lv_at hl 1 rfl) ?_
      refine lv_i2b hx hb dX2_addByte_28 rfl ?_
      refine va_bast hx hb hK hP hD hS 1 2 rfl rfl (vp_in_iff.mpr (by decide)) dX2_addByte_29 (fun H locs hP hD hS => ?_)
      have hP : va_P D vwCl [(aW, .inr (2, [.ref bW, .int 5])), (bW, .inl (cB, 11, .inl (upd fw (5 : Int32).toNatClampNeg (vp_nar .byte b.toInt8.toInt32))))] H := hP
      have hD : va_D A [(aW, .inr (2, [.ref bW, .int 5])), (bW, .inl (cB, 11, .inl (upd fw (5 : Int32).toNatClampNeg (vp_nar .byte b.toInt8.toInt32))))] := hD
      refine lv_aload_n hx hb dX2_addByte_30 rfl (lv_at hl 0 rfl) ?_
      refine lv_dup hx hb dX2_addByte_31 rfl ?_
      refine va_get (D := D) (ci := 2) (v := .int 5) (C := RX2) (T := TX2) (N := 2) hx hb hts iX2_addByte_X2 hown hK hP 0 rfl rfl 1 (by decide) (hts (.fieldLink RX2 15 "TapeCalculator$LineWriter" "length" "I") (List.mem_of_getElem? (i := 1) rfl)) (fun _ h9 => h9) rfl dX2_addByte_32 ?_
      refine lv_iconst (v := 1) hx hb dX2_addByte_35 (by decide) ?_
      refine lv_iadd hx hb dX2_addByte_36 ?_
      refine lv_topi (fun x_3 ex_3 => ?_)
      obtain rfl : x_3 = 6 := ex_3.trans (by decide)
      refine va_put (D := D) (ci := 2) (v := .int 6) (ty := .int) (C := RX2) (T := TX2) (N := 2) hx hb hts iX2_addByte_X2 tyX2 tyX2_ok nmX2 hown hK hP hD hS 0 rfl rfl 1 (by decide) (hts (.fieldLink RX2 15 "TapeCalculator$LineWriter" "length" "I") (List.mem_of_getElem? (i := 1) rfl)) (fun _ h9 => h9) rfl (by decide +kernel) rfl rfl (Nat.le_of_ble_eq_true rfl) dX2_addByte_37 (fun H locs hP hD hS => ?_)
      have hP : va_P D vwCl [(aW, .inr (2, [.ref bW, .int 6])), (bW, .inl (cB, 11, .inl (upd fw (5 : Int32).toNatClampNeg (vp_nar .byte b.toInt8.toInt32))))] H := hP
      have hD : va_D A [(aW, .inr (2, [.ref bW, .int 6])), (bW, .inl (cB, 11, .inl (upd fw (5 : Int32).toNatClampNeg (vp_nar .byte b.toInt8.toInt32))))] := hD
      refine kVret (u := ()) hx hb hr hlocks hS dX2_addByte_40 ?_ (hP.sub [0, 1] rfl) (hD.sub [0, 1] (by decide) rfl)
      exact trivial
set_option maxRecDepth 100000 in
set_option maxHeartbeats 4000000 in
theorem c_addByte_6 (l : Launch) (D : va_G) (cI cL cB cZ cT : ClassId) (sz : Nat) (aW bW : Nat) (fw : Nat → Int32) (b : Int32) : kM (S := Unit) l yX2_addByte wsX2_addByte ({ frames := 0, cells := 0, slots := 0, locals := 0 }) D (kT cI cL cB cZ cT) [.ref aW, .int b] [(aW, .inr (2, [.ref bW, .int 6])), (bW, .inl (cB, 11, .inl fw))] sz eV (fun _ _ => True) (fun _ => [(aW, .inr (2, [.ref bW, .int 7])), (bW, .inl (cB, 11, .inl (upd fw (6 : Int32).toNatClampNeg (vp_nar .byte b.toInt8.toInt32))))]) 0 0 := by
  refine kStart (cc := cX2_addByte) (maxL := 2) (ret := none) (own := RX2) (by decide) rfl rfl (Nat.le_of_ble_eq_true rfl) ?_
  intro p e s m args below meth c A ls hx hb hr hml hown hts hlocks hnm hsz hA hG hP hD hS hl
  have hK := hG.1
  have hl : lv_has ls 2 [(0, .ref aW), (1, .int b)] := hl
  refine lv_aload_n hx hb dX2_addByte_0 rfl (lv_at hl 0 rfl) ?_
  refine va_get (D := D) (ci := 2) (v := .int 6) (C := RX2) (T := TX2) (N := 2) hx hb hts iX2_addByte_X2 hown hK hP 0 rfl rfl 1 (by decide) (hts (.fieldLink RX2 15 "TapeCalculator$LineWriter" "length" "I") (List.mem_of_getElem? (i := 1) rfl)) (fun _ h9 => h9) rfl dX2_addByte_1 ?_
  refine lv_if_lt (tgt := 40) hx hb dX2_addByte_4 (by decide) (fun c_4_0 => ?_) (fun c_4_0 => ?_)
  · exact absurd c_4_0 (by decide)
  · have t_4_0 := c_4_0
    try simp only [kb_eq0, kb_ne0, lg_cmp_lt, lg_cmp_le, lg_cmp_gt, lg_cmp_ge, lg_cmp_eq] at t_4_0
    try simp only [Int32.lt_iff_toInt_lt, Int32.le_iff_toInt_le, ← Int32.toInt_inj, Int64.lt_iff_toInt_lt, Int64.le_iff_toInt_le, ← Int64.toInt_inj, Int32.toInt_toInt64, Int32.reduceToInt, Int64.reduceToInt] at t_4_0
    refine lv_aload_n hx hb dX2_addByte_7 rfl (lv_at hl 0 rfl) ?_
    refine va_get (D := D) (ci := 2) (v := .int 6) (C := RX2) (T := TX2) (N := 2) hx hb hts iX2_addByte_X2 hown hK hP 0 rfl rfl 1 (by decide) (hts (.fieldLink RX2 15 "TapeCalculator$LineWriter" "length" "I") (List.mem_of_getElem? (i := 1) rfl)) (fun _ h9 => h9) rfl dX2_addByte_8 ?_
    refine lv_aload_n hx hb dX2_addByte_11 rfl (lv_at hl 0 rfl) ?_
    refine va_get (D := D) (ci := 2) (v := .ref bW) (C := RX2) (T := TX2) (N := 2) hx hb hts iX2_addByte_X2 hown hK hP 0 rfl rfl 0 (by decide) (hts (.fieldLink RX2 9 "TapeCalculator$LineWriter" "row" "[B") (List.mem_of_getElem? (i := 2) rfl)) (fun _ h9 => h9) rfl dX2_addByte_12 ?_
    refine va_alen hx hb hK hP 1 2 rfl rfl (v := 11) rfl dX2_addByte_15 ?_
    refine lv_icmp_ge (tgt := 40) hx hb dX2_addByte_16 (by decide) (fun c_16_1 => ?_) (fun c_16_1 => ?_)
    · exact absurd c_16_1 (by decide)
    · have t_16_1 := c_16_1
      try simp only [kb_eq0, kb_ne0, lg_cmp_lt, lg_cmp_le, lg_cmp_gt, lg_cmp_ge, lg_cmp_eq] at t_16_1
      try simp only [Int32.lt_iff_toInt_lt, Int32.le_iff_toInt_le, ← Int32.toInt_inj, Int64.lt_iff_toInt_lt, Int64.le_iff_toInt_le, ← Int64.toInt_inj, Int32.toInt_toInt64, Int32.reduceToInt, Int64.reduceToInt] at t_16_1
      refine lv_aload_n hx hb dX2_addByte_19 rfl (lv_at hl 0 rfl) ?_
      refine va_get (D := D) (ci := 2) (v := .ref bW) (C := RX2) (T := TX2) (N := 2) hx hb hts iX2_addByte_X2 hown hK hP 0 rfl rfl 0 (by decide) (hts (.fieldLink RX2 9 "TapeCalculator$LineWriter" "row" "[B") (List.mem_of_getElem? (i := 2) rfl)) (fun _ h9 => h9) rfl dX2_addByte_20 ?_
      refine lv_aload_n hx hb dX2_addByte_23 rfl (lv_at hl 0 rfl) ?_
      refine va_get (D := D) (ci := 2) (v := .int 6) (C := RX2) (T := TX2) (N := 2) hx hb hts iX2_addByte_X2 hown hK hP 0 rfl rfl 1 (by decide) (hts (.fieldLink RX2 15 "TapeCalculator$LineWriter" "length" "I") (List.mem_of_getElem? (i := 1) rfl)) (fun _ h9 => h9) rfl dX2_addByte_24 ?_
      refine lv_iload_n hx hb dX2_addByte_27 rfl (lv_at hl 1 rfl) ?_
      refine lv_i2b hx hb dX2_addByte_28 rfl ?_
      refine va_bast hx hb hK hP hD hS 1 2 rfl rfl (vp_in_iff.mpr (by decide)) dX2_addByte_29 (fun H locs hP hD hS => ?_)
      have hP : va_P D vwCl [(aW, .inr (2, [.ref bW, .int 6])), (bW, .inl (cB, 11, .inl (upd fw (6 : Int32).toNatClampNeg (vp_nar .byte b.toInt8.toInt32))))] H := hP
      have hD : va_D A [(aW, .inr (2, [.ref bW, .int 6])), (bW, .inl (cB, 11, .inl (upd fw (6 : Int32).toNatClampNeg (vp_nar .byte b.toInt8.toInt32))))] := hD
      refine lv_aload_n hx hb dX2_addByte_30 rfl (lv_at hl 0 rfl) ?_
      refine lv_dup hx hb dX2_addByte_31 rfl ?_
      refine va_get (D := D) (ci := 2) (v := .int 6) (C := RX2) (T := TX2) (N := 2) hx hb hts iX2_addByte_X2 hown hK hP 0 rfl rfl 1 (by decide) (hts (.fieldLink RX2 15 "TapeCalculator$LineWriter" "length" "I") (List.mem_of_getElem? (i := 1) rfl)) (fun _ h9 => h9) rfl dX2_addByte_32 ?_
      refine lv_iconst (v := 1) hx hb dX2_addByte_35 (by decide) ?_
      refine lv_iadd hx hb dX2_addByte_36 ?_
      refine lv_topi (fun x_3 ex_3 => ?_)
      obtain rfl : x_3 = 7 := ex_3.trans (by decide)
      refine va_put (D := D) (ci := 2) (v := .int 7) (ty := .int) (C := RX2) (T := TX2) (N := 2) hx hb hts iX2_addByte_X2 tyX2 tyX2_ok nmX2 hown hK hP hD hS 0 rfl rfl 1 (by decide) (hts (.fieldLink RX2 15 "TapeCalculator$LineWriter" "length" "I") (List.mem_of_getElem? (i := 1) rfl)) (fun _ h9 => h9) rfl (by decide +kernel) rfl rfl (Nat.le_of_ble_eq_true rfl) dX2_addByte_37 (fun H locs hP hD hS => ?_)
      have hP : va_P D vwCl [(aW, .inr (2, [.ref bW, .int 7])), (bW, .inl (cB, 11, .inl (upd fw (6 : Int32).toNatClampNeg (vp_nar .byte b.toInt8.toInt32))))] H := hP
      have hD : va_D A [(aW, .inr (2, [.ref bW, .int 7])), (bW, .inl (cB, 11, .inl (upd fw (6 : Int32).toNatClampNeg (vp_nar .byte b.toInt8.toInt32))))] := hD
      refine kVret (u := ()) hx hb hr hlocks hS dX2_addByte_40 ?_ (hP.sub [0, 1] rfl) (hD.sub [0, 1] (by decide) rfl)
      exact trivial
set_option maxRecDepth 100000 in
set_option maxHeartbeats 4000000 in
theorem c_addByte_7 (l : Launch) (D : va_G) (cI cL cB cZ cT : ClassId) (sz : Nat) (aW bW : Nat) (fw : Nat → Int32) (b : Int32) : kM (S := Unit) l yX2_addByte wsX2_addByte ({ frames := 0, cells := 0, slots := 0, locals := 0 }) D (kT cI cL cB cZ cT) [.ref aW, .int b] [(aW, .inr (2, [.ref bW, .int 7])), (bW, .inl (cB, 11, .inl fw))] sz eV (fun _ _ => True) (fun _ => [(aW, .inr (2, [.ref bW, .int 8])), (bW, .inl (cB, 11, .inl (upd fw (7 : Int32).toNatClampNeg (vp_nar .byte b.toInt8.toInt32))))]) 0 0 := by
  refine kStart (cc := cX2_addByte) (maxL := 2) (ret := none) (own := RX2) (by decide) rfl rfl (Nat.le_of_ble_eq_true rfl) ?_
  intro p e s m args below meth c A ls hx hb hr hml hown hts hlocks hnm hsz hA hG hP hD hS hl
  have hK := hG.1
  have hl : lv_has ls 2 [(0, .ref aW), (1, .int b)] := hl
  refine lv_aload_n hx hb dX2_addByte_0 rfl (lv_at hl 0 rfl) ?_
  refine va_get (D := D) (ci := 2) (v := .int 7) (C := RX2) (T := TX2) (N := 2) hx hb hts iX2_addByte_X2 hown hK hP 0 rfl rfl 1 (by decide) (hts (.fieldLink RX2 15 "TapeCalculator$LineWriter" "length" "I") (List.mem_of_getElem? (i := 1) rfl)) (fun _ h9 => h9) rfl dX2_addByte_1 ?_
  refine lv_if_lt (tgt := 40) hx hb dX2_addByte_4 (by decide) (fun c_4_0 => ?_) (fun c_4_0 => ?_)
  · exact absurd c_4_0 (by decide)
  · have t_4_0 := c_4_0
    try simp only [kb_eq0, kb_ne0, lg_cmp_lt, lg_cmp_le, lg_cmp_gt, lg_cmp_ge, lg_cmp_eq] at t_4_0
    try simp only [Int32.lt_iff_toInt_lt, Int32.le_iff_toInt_le, ← Int32.toInt_inj, Int64.lt_iff_toInt_lt, Int64.le_iff_toInt_le, ← Int64.toInt_inj, Int32.toInt_toInt64, Int32.reduceToInt, Int64.reduceToInt] at t_4_0
    refine lv_aload_n hx hb dX2_addByte_7 rfl (lv_at hl 0 rfl) ?_
    refine va_get (D := D) (ci := 2) (v := .int 7) (C := RX2) (T := TX2) (N := 2) hx hb hts iX2_addByte_X2 hown hK hP 0 rfl rfl 1 (by decide) (hts (.fieldLink RX2 15 "TapeCalculator$LineWriter" "length" "I") (List.mem_of_getElem? (i := 1) rfl)) (fun _ h9 => h9) rfl dX2_addByte_8 ?_
    refine lv_aload_n hx hb dX2_addByte_11 rfl (lv_at hl 0 rfl) ?_
    refine va_get (D := D) (ci := 2) (v := .ref bW) (C := RX2) (T := TX2) (N := 2) hx hb hts iX2_addByte_X2 hown hK hP 0 rfl rfl 0 (by decide) (hts (.fieldLink RX2 9 "TapeCalculator$LineWriter" "row" "[B") (List.mem_of_getElem? (i := 2) rfl)) (fun _ h9 => h9) rfl dX2_addByte_12 ?_
    refine va_alen hx hb hK hP 1 2 rfl rfl (v := 11) rfl dX2_addByte_15 ?_
    refine lv_icmp_ge (tgt := 40) hx hb dX2_addByte_16 (by decide) (fun c_16_1 => ?_) (fun c_16_1 => ?_)
    · exact absurd c_16_1 (by decide)
    · have t_16_1 := c_16_1
      try simp only [kb_eq0, kb_ne0, lg_cmp_lt, lg_cmp_le, lg_cmp_gt, lg_cmp_ge, lg_cmp_eq] at t_16_1
      try simp only [Int32.lt_iff_toInt_lt, Int32.le_iff_toInt_le, ← Int32.toInt_inj, Int64.lt_iff_toInt_lt, Int64.le_iff_toInt_le, ← Int64.toInt_inj, Int32.toInt_toInt64, Int32.reduceToInt, Int64.reduceToInt] at t_16_1
      refine lv_aload_n hx hb dX2_addByte_19 rfl (lv_at hl 0 rfl) ?_
      refine va_get (D := D) (ci := 2) (v := .ref bW) (C := RX2) (T := TX2) (N := 2) hx hb hts iX2_addByte_X2 hown hK hP 0 rfl rfl 0 (by decide) (hts (.fieldLink RX2 9 "TapeCalculator$LineWriter" "row" "[B") (List.mem_of_getElem? (i := 2) rfl)) (fun _ h9 => h9) rfl dX2_addByte_20 ?_
      refine lv_aload_n hx hb dX2_addByte_23 rfl (lv_at hl 0 rfl) ?_
      refine va_get (D := D) (ci := 2) (v := .int 7) (C := RX2) (T := TX2) (N := 2) hx hb hts iX2_addByte_X2 hown hK hP 0 rfl rfl 1 (by decide) (hts (.fieldLink RX2 15 "TapeCalculator$LineWriter" "length" "I") (List.mem_of_getElem? (i := 1) rfl)) (fun _ h9 => h9) rfl dX2_addByte_24 ?_
      refine lv_iload_n hx hb dX2_addByte_27 rfl (lv_at hl 1 rfl) ?_
      refine lv_i2b hx hb dX2_addByte_28 rfl ?_
      refine va_bast hx hb hK hP hD hS 1 2 rfl rfl (vp_in_iff.mpr (by decide)) dX2_addByte_29 (fun H locs hP hD hS => ?_)
      have hP : va_P D vwCl [(aW, .inr (2, [.ref bW, .int 7])), (bW, .inl (cB, 11, .inl (upd fw (7 : Int32).toNatClampNeg (vp_nar .byte b.toInt8.toInt32))))] H := hP
      have hD : va_D A [(aW, .inr (2, [.ref bW, .int 7])), (bW, .inl (cB, 11, .inl (upd fw (7 : Int32).toNatClampNeg (vp_nar .byte b.toInt8.toInt32))))] := hD
      refine lv_aload_n hx hb dX2_addByte_30 rfl (lv_at hl 0 rfl) ?_
      refine lv_dup hx hb dX2_addByte_31 rfl ?_
      refine va_get (D := D) (ci := 2) (v := .int 7) (C := RX2) (T := TX2) (N := 2) hx hb hts iX2_addByte_X2 hown hK hP 0 rfl rfl 1 (by decide) (hts (.fieldLink RX2 15 "TapeCalculator$LineWriter" "length" "I") (List.mem_of_getElem? (i := 1) rfl)) (fun _ h9 => h9) rfl dX2_addByte_32 ?_
      refine lv_iconst (v := 1) hx hb dX2_addByte_35 (by decide) ?_
      refine lv_iadd hx hb dX2_addByte_36 ?_
      refine lv_topi (fun x_3 ex_3 => ?_)
      obtain rfl : x_3 = 8 := ex_3.trans (by decide)
      refine va_put (D := D) (ci := 2) (v := .int 8) (ty := .int) (C := RX2) (T := TX2) (N := 2) hx hb hts iX2_addByte_X2 tyX2 tyX2_ok nmX2 hown hK hP hD hS 0 rfl rfl 1 (by decide) (hts (.fieldLink RX2 15 "TapeCalculator$LineWriter" "length" "I") (List.mem_of_getElem? (i := 1) rfl)) (fun _ h9 => h9) rfl (by decide +kernel) rfl rfl (Nat.le_of_ble_eq_true rfl) dX2_addByte_37 (fun H locs hP hD hS => ?_)
      have hP : va_P D vwCl [(aW, .inr (2, [.ref bW, .int 8])), (bW, .inl (cB, 11, .inl (upd fw (7 : Int32).toNatClampNeg (vp_nar .byte b.toInt8.toInt32))))] H := hP
      have hD : va_D A [(aW, .inr (2, [.ref bW, .int 8])), (bW, .inl (cB, 11, .inl (upd fw (7 : Int32).toNatClampNeg (vp_nar .byte b.toInt8.toInt32))))] := hD
      refine kVret (u := ()) hx hb hr hlocks hS dX2_addByte_40 ?_ (hP.sub [0, 1] rfl) (hD.sub [0, 1] (by decide) rfl)
      exact trivial
set_option maxRecDepth 100000 in
set_option maxHeartbeats 4000000 in
theorem c_addN_1 (l : Launch) (D : va_G) (cI cL cB cZ cT : ClassId) (sz : Nat) (aW bW : Nat) (fw : Nat → Int32) (n : Int32) (hn : 0 ≤ n.toInt ∧ n.toInt ≤ 9) : kM (S := Unit) l yX2_addNumber wsX2_addNumber ({ frames := 1, cells := 0, slots := 0, locals := 21 }) D (kT cI cL cB cZ cT) [.ref aW, .int n] [(aW, .inr (2, [.ref bW, .int 0])), (bW, .inl (cB, 11, .inl fw))] sz eV (fun _ _ => True) (fun _ => [(aW, .inr (2, [.ref bW, .int 1])), (bW, .inl (cB, 11, .inl (upd fw (0 : Int32).toNatClampNeg (vp_nar .byte ((48 + ((n / 1) - (n / 1) / 10 * 10)).toUInt32 % 65536).toInt32.toInt8.toInt32))))]) 0 0 := by
  refine kStart (cc := cX2_addNumber) (maxL := 3) (ret := none) (own := RX2) (by decide) rfl rfl (Nat.le_of_ble_eq_true rfl) ?_
  intro p e s m args below meth c A ls hx hb hr hml hown hts hlocks hnm hsz hA hG hP hD hS hl
  have hK := hG.1
  have hl : lv_has ls 3 [(0, .ref aW), (1, .int n)] := hl
  refine lv_sipush (v := 1000) hx hb dX2_addNumber_0 (by decide) ?_
  refine lv_istore_n (lv' := [(2, .int 1000), (0, .ref aW), (1, .int n)]) hx hb dX2_addNumber_3 rfl hl (by decide) rfl (fun ls hl => ?_)
  refine lv_iload_n hx hb dX2_addNumber_4 rfl (lv_at hl 0 rfl) ?_
  refine lv_if_le (tgt := 40) hx hb dX2_addNumber_5 (by decide) (fun c_5_0 => ?_) (fun c_5_0 => ?_)
  · exact absurd c_5_0 (by decide)
  · have t_5_0 := c_5_0
    try simp only [kb_eq0, kb_ne0, lg_cmp_lt, lg_cmp_le, lg_cmp_gt, lg_cmp_ge, lg_cmp_eq] at t_5_0
    try simp only [Int32.lt_iff_toInt_lt, Int32.le_iff_toInt_le, ← Int32.toInt_inj, Int64.lt_iff_toInt_lt, Int64.le_iff_toInt_le, ← Int64.toInt_inj, Int32.toInt_toInt64, Int32.reduceToInt, Int64.reduceToInt] at t_5_0
    refine lv_iload_n hx hb dX2_addNumber_8 rfl (lv_at hl 2 rfl) ?_
    refine lv_iload_n hx hb dX2_addNumber_9 rfl (lv_at hl 0 rfl) ?_
    refine lv_icmp_ge (tgt := 18) hx hb dX2_addNumber_10 (by decide) (fun c_10_1 => ?_) (fun c_10_1 => ?_)
    · have t_10_1 := c_10_1
      try simp only [kb_eq0, kb_ne0, lg_cmp_lt, lg_cmp_le, lg_cmp_gt, lg_cmp_ge, lg_cmp_eq] at t_10_1
      try simp only [Int32.lt_iff_toInt_lt, Int32.le_iff_toInt_le, ← Int32.toInt_inj, Int64.lt_iff_toInt_lt, Int64.le_iff_toInt_le, ← Int64.toInt_inj, Int32.toInt_toInt64, Int32.reduceToInt, Int64.reduceToInt] at t_10_1
      omega
    · have t_10_1 := c_10_1
      try simp only [kb_eq0, kb_ne0, lg_cmp_lt, lg_cmp_le, lg_cmp_gt, lg_cmp_ge, lg_cmp_eq] at t_10_1
      try simp only [Int32.lt_iff_toInt_lt, Int32.le_iff_toInt_le, ← Int32.toInt_inj, Int64.lt_iff_toInt_lt, Int64.le_iff_toInt_le, ← Int64.toInt_inj, Int32.toInt_toInt64, Int32.reduceToInt, Int64.reduceToInt] at t_10_1
      refine lv_iload_n hx hb dX2_addNumber_13 rfl (lv_at hl 0 rfl) ?_
      refine lv_iconst (v := 1) hx hb dX2_addNumber_14 (by decide) ?_
      refine lv_icmp_ne (tgt := 32) hx hb dX2_addNumber_15 (by decide) (fun c_15_2 => ?_) (fun c_15_2 => ?_)
      · have t_15_2 := c_15_2
        try simp only [kb_eq0, kb_ne0, lg_cmp_lt, lg_cmp_le, lg_cmp_gt, lg_cmp_ge, lg_cmp_eq] at t_15_2
        try simp only [Int32.lt_iff_toInt_lt, Int32.le_iff_toInt_le, ← Int32.toInt_inj, Int64.lt_iff_toInt_lt, Int64.le_iff_toInt_le, ← Int64.toInt_inj, Int32.toInt_toInt64, Int32.reduceToInt, Int64.reduceToInt] at t_15_2
        refine lv_iload_n hx hb dX2_addNumber_32 rfl (lv_at hl 0 rfl) ?_
        refine lv_bipush (v := 10) hx hb dX2_addNumber_33 (by decide) ?_
        refine lv_idiv hx hb dX2_addNumber_35 (by decide) ?_
        refine lv_topi (fun x_4 ex_4 => ?_)
        obtain rfl : x_4 = 100 := ex_4.trans (by decide)
        refine lv_istore_n (lv' := [(2, .int 100), (0, .ref aW), (1, .int n)]) hx hb dX2_addNumber_36 rfl hl (by decide) rfl (fun ls hl => ?_)
        refine lv_goto (tgt := 4) hx hb dX2_addNumber_37 (by decide) ?_
        refine lv_iload_n hx hb dX2_addNumber_4 rfl (lv_at hl 0 rfl) ?_
        refine lv_if_le (tgt := 40) hx hb dX2_addNumber_5 (by decide) (fun c_5_4 => ?_) (fun c_5_4 => ?_)
        · exact absurd c_5_4 (by decide)
        · have t_5_4 := c_5_4
          try simp only [kb_eq0, kb_ne0, lg_cmp_lt, lg_cmp_le, lg_cmp_gt, lg_cmp_ge, lg_cmp_eq] at t_5_4
          try simp only [Int32.lt_iff_toInt_lt, Int32.le_iff_toInt_le, ← Int32.toInt_inj, Int64.lt_iff_toInt_lt, Int64.le_iff_toInt_le, ← Int64.toInt_inj, Int32.toInt_toInt64, Int32.reduceToInt, Int64.reduceToInt] at t_5_4
          refine lv_iload_n hx hb dX2_addNumber_8 rfl (lv_at hl 2 rfl) ?_
          refine lv_iload_n hx hb dX2_addNumber_9 rfl (lv_at hl 0 rfl) ?_
          refine lv_icmp_ge (tgt := 18) hx hb dX2_addNumber_10 (by decide) (fun c_10_5 => ?_) (fun c_10_5 => ?_)
          · have t_10_5 := c_10_5
            try simp only [kb_eq0, kb_ne0, lg_cmp_lt, lg_cmp_le, lg_cmp_gt, lg_cmp_ge, lg_cmp_eq] at t_10_5
            try simp only [Int32.lt_iff_toInt_lt, Int32.le_iff_toInt_le, ← Int32.toInt_inj, Int64.lt_iff_toInt_lt, Int64.le_iff_toInt_le, ← Int64.toInt_inj, Int32.toInt_toInt64, Int32.reduceToInt, Int64.reduceToInt] at t_10_5
            omega
          · have t_10_5 := c_10_5
            try simp only [kb_eq0, kb_ne0, lg_cmp_lt, lg_cmp_le, lg_cmp_gt, lg_cmp_ge, lg_cmp_eq] at t_10_5
            try simp only [Int32.lt_iff_toInt_lt, Int32.le_iff_toInt_le, ← Int32.toInt_inj, Int64.lt_iff_toInt_lt, Int64.le_iff_toInt_le, ← Int64.toInt_inj, Int32.toInt_toInt64, Int32.reduceToInt, Int64.reduceToInt] at t_10_5
            refine lv_iload_n hx hb dX2_addNumber_13 rfl (lv_at hl 0 rfl) ?_
            refine lv_iconst (v := 1) hx hb dX2_addNumber_14 (by decide) ?_
            refine lv_icmp_ne (tgt := 32) hx hb dX2_addNumber_15 (by decide) (fun c_15_6 => ?_) (fun c_15_6 => ?_)
            · have t_15_6 := c_15_6
              try simp only [kb_eq0, kb_ne0, lg_cmp_lt, lg_cmp_le, lg_cmp_gt, lg_cmp_ge, lg_cmp_eq] at t_15_6
              try simp only [Int32.lt_iff_toInt_lt, Int32.le_iff_toInt_le, ← Int32.toInt_inj, Int64.lt_iff_toInt_lt, Int64.le_iff_toInt_le, ← Int64.toInt_inj, Int32.toInt_toInt64, Int32.reduceToInt, Int64.reduceToInt] at t_15_6
              refine lv_iload_n hx hb dX2_addNumber_32 rfl (lv_at hl 0 rfl) ?_
              refine lv_bipush (v := 10) hx hb dX2_addNumber_33 (by decide) ?_
              refine lv_idiv hx hb dX2_addNumber_35 (by decide) ?_
              refine lv_topi (fun x_8 ex_8 => ?_)
              obtain rfl : x_8 = 10 := ex_8.trans (by decide)
              refine lv_istore_n (lv' := [(2, .int 10), (0, .ref aW), (1, .int n)]) hx hb dX2_addNumber_36 rfl hl (by decide) rfl (fun ls hl => ?_)
              refine lv_goto (tgt := 4) hx hb dX2_addNumber_37 (by decide) ?_
              refine lv_iload_n hx hb dX2_addNumber_4 rfl (lv_at hl 0 rfl) ?_
              refine lv_if_le (tgt := 40) hx hb dX2_addNumber_5 (by decide) (fun c_5_8 => ?_) (fun c_5_8 => ?_)
              · exact absurd c_5_8 (by decide)
              · have t_5_8 := c_5_8
                try simp only [kb_eq0, kb_ne0, lg_cmp_lt, lg_cmp_le, lg_cmp_gt, lg_cmp_ge, lg_cmp_eq] at t_5_8
                try simp only [Int32.lt_iff_toInt_lt, Int32.le_iff_toInt_le, ← Int32.toInt_inj, Int64.lt_iff_toInt_lt, Int64.le_iff_toInt_le, ← Int64.toInt_inj, Int32.toInt_toInt64, Int32.reduceToInt, Int64.reduceToInt] at t_5_8
                refine lv_iload_n hx hb dX2_addNumber_8 rfl (lv_at hl 2 rfl) ?_
                refine lv_iload_n hx hb dX2_addNumber_9 rfl (lv_at hl 0 rfl) ?_
                refine lv_icmp_ge (tgt := 18) hx hb dX2_addNumber_10 (by decide) (fun c_10_9 => ?_) (fun c_10_9 => ?_)
                · have t_10_9 := c_10_9
                  try simp only [kb_eq0, kb_ne0, lg_cmp_lt, lg_cmp_le, lg_cmp_gt, lg_cmp_ge, lg_cmp_eq] at t_10_9
                  try simp only [Int32.lt_iff_toInt_lt, Int32.le_iff_toInt_le, ← Int32.toInt_inj, Int64.lt_iff_toInt_lt, Int64.le_iff_toInt_le, ← Int64.toInt_inj, Int32.toInt_toInt64, Int32.reduceToInt, Int64.reduceToInt] at t_10_9
                  omega
                · have t_10_9 := c_10_9
                  try simp only [kb_eq0, kb_ne0, lg_cmp_lt, lg_cmp_le, lg_cmp_gt, lg_cmp_ge, lg_cmp_eq] at t_10_9
                  try simp only [Int32.lt_iff_toInt_lt, Int32.le_iff_toInt_le, ← Int32.toInt_inj, Int64.lt_iff_toInt_lt, Int64.le_iff_toInt_le, ← Int64.toInt_inj, Int32.toInt_toInt64, Int32.reduceToInt, Int64.reduceToInt] at t_10_9
                  refine lv_iload_n hx hb dX2_addNumber_13 rfl (lv_at hl 0 rfl) ?_
                  refine lv_iconst (v := 1) hx hb dX2_addNumber_14 (by decide) ?_
                  refine lv_icmp_ne (tgt := 32) hx hb dX2_addNumber_15 (by decide) (fun c_15_10 => ?_) (fun c_15_10 => ?_)
                  · have t_15_10 := c_15_10
                    try simp only [kb_eq0, kb_ne0, lg_cmp_lt, lg_cmp_le, lg_cmp_gt, lg_cmp_ge, lg_cmp_eq] at t_15_10
                    try simp only [Int32.lt_iff_toInt_lt, Int32.le_iff_toInt_le, ← Int32.toInt_inj, Int64.lt_iff_toInt_lt, Int64.le_iff_toInt_le, ← Int64.toInt_inj, Int32.toInt_toInt64, Int32.reduceToInt, Int64.reduceToInt] at t_15_10
                    refine lv_iload_n hx hb dX2_addNumber_32 rfl (lv_at hl 0 rfl) ?_
                    refine lv_bipush (v := 10) hx hb dX2_addNumber_33 (by decide) ?_
                    refine lv_idiv hx hb dX2_addNumber_35 (by decide) ?_
                    refine lv_topi (fun x_12 ex_12 => ?_)
                    obtain rfl : x_12 = 1 := ex_12.trans (by decide)
                    refine lv_istore_n (lv' := [(2, .int 1), (0, .ref aW), (1, .int n)]) hx hb dX2_addNumber_36 rfl hl (by decide) rfl (fun ls hl => ?_)
                    refine lv_goto (tgt := 4) hx hb dX2_addNumber_37 (by decide) ?_
                    refine lv_iload_n hx hb dX2_addNumber_4 rfl (lv_at hl 0 rfl) ?_
                    refine lv_if_le (tgt := 40) hx hb dX2_addNumber_5 (by decide) (fun c_5_12 => ?_) (fun c_5_12 => ?_)
                    · exact absurd c_5_12 (by decide)
                    · have t_5_12 := c_5_12
                      try simp only [kb_eq0, kb_ne0, lg_cmp_lt, lg_cmp_le, lg_cmp_gt, lg_cmp_ge, lg_cmp_eq] at t_5_12
                      try simp only [Int32.lt_iff_toInt_lt, Int32.le_iff_toInt_le, ← Int32.toInt_inj, Int64.lt_iff_toInt_lt, Int64.le_iff_toInt_le, ← Int64.toInt_inj, Int32.toInt_toInt64, Int32.reduceToInt, Int64.reduceToInt] at t_5_12
                      refine lv_iload_n hx hb dX2_addNumber_8 rfl (lv_at hl 2 rfl) ?_
                      refine lv_iload_n hx hb dX2_addNumber_9 rfl (lv_at hl 0 rfl) ?_
                      refine lv_icmp_ge (tgt := 18) hx hb dX2_addNumber_10 (by decide) (fun c_10_13 => ?_) (fun c_10_13 => ?_)
                      · have t_10_13 := c_10_13
                        try simp only [kb_eq0, kb_ne0, lg_cmp_lt, lg_cmp_le, lg_cmp_gt, lg_cmp_ge, lg_cmp_eq] at t_10_13
                        try simp only [Int32.lt_iff_toInt_lt, Int32.le_iff_toInt_le, ← Int32.toInt_inj, Int64.lt_iff_toInt_lt, Int64.le_iff_toInt_le, ← Int64.toInt_inj, Int32.toInt_toInt64, Int32.reduceToInt, Int64.reduceToInt] at t_10_13
                        refine lv_aload_n hx hb dX2_addNumber_18 rfl (lv_at hl 1 rfl) ?_
                        refine lv_bipush (v := 48) hx hb dX2_addNumber_19 (by decide) ?_
                        refine lv_iload_n hx hb dX2_addNumber_21 rfl (lv_at hl 2 rfl) ?_
                        refine lv_iload_n hx hb dX2_addNumber_22 rfl (lv_at hl 0 rfl) ?_
                        refine lv_idiv hx hb dX2_addNumber_23 (by decide) ?_
                        refine lv_bipush (v := 10) hx hb dX2_addNumber_24 (by decide) ?_
                        refine lv_irem hx hb dX2_addNumber_26 (by decide) ?_
                        refine lv_iadd hx hb dX2_addNumber_27 ?_
                        refine lv_i2c hx hb dX2_addNumber_28 rfl ?_
                        refine kCallVd (wr := []) (va_runV (As := [.int ((48 + ((n / 1) - (n / 1) / 10 * 10)).toUInt32 % 65536).toInt32]) (rest := []) ⟨hx, hb, hml, hown, hts⟩ (c_addByte_0 l D cI cL cB cZ cT _ aW bW fw ((48 + ((n / 1) - (n / 1) / 10 * 10)).toUInt32 % 65536).toInt32) (cwV 1 hts gX2_addNumber_X2_addByte rfl rfl rfl (by decide +kernel) ⟨Nat.le_of_ble_eq_true rfl, Nat.le_of_ble_eq_true rfl⟩) (kPreV hG hP hD [0, 1] rfl (by decide) 0 2 rfl rfl rfl) rfl rfl hl.1 rfl (lv_room (Nat.le_of_ble_eq_true rfl)) dX2_addNumber_29 ⟨Nat.le_of_ble_eq_true rfl, Nat.le_of_ble_eq_true rfl⟩) hA hP hD hS [0, 1] [] rfl rfl (by decide) (by decide) (fun _ u_r_15 H locs wr_15 hP hD hS => ?_)
                        have hP : va_P D vwCl [(aW, .inr (2, [.ref bW, .int 1])), (bW, .inl (cB, 11, .inl (upd fw (0 : Int32).toNatClampNeg (vp_nar .byte (((48 + ((n / 1) - (n / 1) / 10 * 10)).toUInt32 % 65536).toInt32).toInt8.toInt32))))] H := hP
                        have hD : va_D A [(aW, .inr (2, [.ref bW, .int 1])), (bW, .inl (cB, 11, .inl (upd fw (0 : Int32).toNatClampNeg (vp_nar .byte (((48 + ((n / 1) - (n / 1) / 10 * 10)).toUInt32 % 65536).toInt32).toInt8.toInt32))))] := hD
                        try dsimp only at wr_15
                        refine lv_iload_n hx hb dX2_addNumber_32 rfl (lv_at hl 0 rfl) ?_
                        refine lv_bipush (v := 10) hx hb dX2_addNumber_33 (by decide) ?_
                        refine lv_idiv hx hb dX2_addNumber_35 (by decide) ?_
                        refine lv_topi (fun x_16 ex_16 => ?_)
                        obtain rfl : x_16 = 0 := ex_16.trans (by decide)
                        refine lv_istore_n (lv' := [(2, .int 0), (0, .ref aW), (1, .int n)]) hx hb dX2_addNumber_36 rfl hl (by decide) rfl (fun ls hl => ?_)
                        refine lv_goto (tgt := 4) hx hb dX2_addNumber_37 (by decide) ?_
                        refine lv_iload_n hx hb dX2_addNumber_4 rfl (lv_at hl 0 rfl) ?_
                        refine lv_if_le (tgt := 40) hx hb dX2_addNumber_5 (by decide) (fun c_5_16 => ?_) (fun c_5_16 => ?_)
                        · have t_5_16 := c_5_16
                          try simp only [kb_eq0, kb_ne0, lg_cmp_lt, lg_cmp_le, lg_cmp_gt, lg_cmp_ge, lg_cmp_eq] at t_5_16
                          try simp only [Int32.lt_iff_toInt_lt, Int32.le_iff_toInt_le, ← Int32.toInt_inj, Int64.lt_iff_toInt_lt, Int64.le_iff_toInt_le, ← Int64.toInt_inj, Int32.toInt_toInt64, Int32.reduceToInt, Int64.reduceToInt] at t_5_16
                          refine kVret (u := ()) hx hb hr hlocks hS dX2_addNumber_40 ?_ (hP.sub [0, 1] rfl) (hD.sub [0, 1] (by decide) rfl)
                          exact trivial
                        · exact absurd (by decide) c_5_16
                      · have t_10_13 := c_10_13
                        try simp only [kb_eq0, kb_ne0, lg_cmp_lt, lg_cmp_le, lg_cmp_gt, lg_cmp_ge, lg_cmp_eq] at t_10_13
                        try simp only [Int32.lt_iff_toInt_lt, Int32.le_iff_toInt_le, ← Int32.toInt_inj, Int64.lt_iff_toInt_lt, Int64.le_iff_toInt_le, ← Int64.toInt_inj, Int32.toInt_toInt64, Int32.reduceToInt, Int64.reduceToInt] at t_10_13
                        refine lv_iload_n hx hb dX2_addNumber_13 rfl (lv_at hl 0 rfl) ?_
                        refine lv_iconst (v := 1) hx hb dX2_addNumber_14 (by decide) ?_
                        refine lv_icmp_ne (tgt := 32) hx hb dX2_addNumber_15 (by decide) (fun c_15_17 => ?_) (fun c_15_17 => ?_)
                        · exact absurd (by decide) c_15_17
                        · have t_15_17 := c_15_17
                          try simp only [kb_eq0, kb_ne0, lg_cmp_lt, lg_cmp_le, lg_cmp_gt, lg_cmp_ge, lg_cmp_eq] at t_15_17
                          try simp only [Int32.lt_iff_toInt_lt, Int32.le_iff_toInt_le, ← Int32.toInt_inj, Int64.lt_iff_toInt_lt, Int64.le_iff_toInt_le, ← Int64.toInt_inj, Int32.toInt_toInt64, Int32.reduceToInt, Int64.reduceToInt] at t_15_17
                          refine lv_aload_n hx hb dX2_addNumber_18 rfl (lv_at hl 1 rfl) ?_
                          refine lv_bipush (v := 48) hx hb dX2_addNumber_19 (by decide) ?_
                          refine lv_iload_n hx hb dX2_addNumber_21 rfl (lv_at hl 2 rfl) ?_
                          refine lv_iload_n hx hb dX2_addNumber_22 rfl (lv_at hl 0 rfl) ?_
                          refine lv_idiv hx hb dX2_addNumber_23 (by decide) ?_
                          refine lv_bipush (v := 10) hx hb dX2_addNumber_24 (by decide) ?_
                          refine lv_irem hx hb dX2_addNumber_26 (by decide) ?_
                          refine lv_iadd hx hb dX2_addNumber_27 ?_
                          refine lv_i2c hx hb dX2_addNumber_28 rfl ?_
                          refine kCallVd (wr := []) (va_runV (As := [.int ((48 + ((n / 1) - (n / 1) / 10 * 10)).toUInt32 % 65536).toInt32]) (rest := []) ⟨hx, hb, hml, hown, hts⟩ (c_addByte_0 l D cI cL cB cZ cT _ aW bW fw ((48 + ((n / 1) - (n / 1) / 10 * 10)).toUInt32 % 65536).toInt32) (cwV 1 hts gX2_addNumber_X2_addByte rfl rfl rfl (by decide +kernel) ⟨Nat.le_of_ble_eq_true rfl, Nat.le_of_ble_eq_true rfl⟩) (kPreV hG hP hD [0, 1] rfl (by decide) 0 2 rfl rfl rfl) rfl rfl hl.1 rfl (lv_room (Nat.le_of_ble_eq_true rfl)) dX2_addNumber_29 ⟨Nat.le_of_ble_eq_true rfl, Nat.le_of_ble_eq_true rfl⟩) hA hP hD hS [0, 1] [] rfl rfl (by decide) (by decide) (fun _ u_r_19 H locs wr_19 hP hD hS => ?_)
                          have hP : va_P D vwCl [(aW, .inr (2, [.ref bW, .int 1])), (bW, .inl (cB, 11, .inl (upd fw (0 : Int32).toNatClampNeg (vp_nar .byte (((48 + ((n / 1) - (n / 1) / 10 * 10)).toUInt32 % 65536).toInt32).toInt8.toInt32))))] H := hP
                          have hD : va_D A [(aW, .inr (2, [.ref bW, .int 1])), (bW, .inl (cB, 11, .inl (upd fw (0 : Int32).toNatClampNeg (vp_nar .byte (((48 + ((n / 1) - (n / 1) / 10 * 10)).toUInt32 % 65536).toInt32).toInt8.toInt32))))] := hD
                          try dsimp only at wr_19
                          refine lv_iload_n hx hb dX2_addNumber_32 rfl (lv_at hl 0 rfl) ?_
                          refine lv_bipush (v := 10) hx hb dX2_addNumber_33 (by decide) ?_
                          refine lv_idiv hx hb dX2_addNumber_35 (by decide) ?_
                          refine lv_topi (fun x_20 ex_20 => ?_)
                          obtain rfl : x_20 = 0 := ex_20.trans (by decide)
                          refine lv_istore_n (lv' := [(2, .int 0), (0, .ref aW), (1, .int n)]) hx hb dX2_addNumber_36 rfl hl (by decide) rfl (fun ls hl => ?_)
                          refine lv_goto (tgt := 4) hx hb dX2_addNumber_37 (by decide) ?_
                          refine lv_iload_n hx hb dX2_addNumber_4 rfl (lv_at hl 0 rfl) ?_
                          refine lv_if_le (tgt := 40) hx hb dX2_addNumber_5 (by decide) (fun c_5_20 => ?_) (fun c_5_20 => ?_)
                          · have t_5_20 := c_5_20
                            try simp only [kb_eq0, kb_ne0, lg_cmp_lt, lg_cmp_le, lg_cmp_gt, lg_cmp_ge, lg_cmp_eq] at t_5_20
                            try simp only [Int32.lt_iff_toInt_lt, Int32.le_iff_toInt_le, ← Int32.toInt_inj, Int64.lt_iff_toInt_lt, Int64.le_iff_toInt_le, ← Int64.toInt_inj, Int32.toInt_toInt64, Int32.reduceToInt, Int64.reduceToInt] at t_5_20
                            refine kVret (u := ()) hx hb hr hlocks hS dX2_addNumber_40 ?_ (hP.sub [0, 1] rfl) (hD.sub [0, 1] (by decide) rfl)
                            exact trivial
                          · exact absurd (by decide) c_5_20
                  · exact absurd c_15_10 (by decide)
            · exact absurd c_15_6 (by decide)
      · exact absurd c_15_2 (by decide)
set_option maxRecDepth 100000 in
set_option maxHeartbeats 4000000 in
theorem c_addN_2 (l : Launch) (D : va_G) (cI cL cB cZ cT : ClassId) (sz : Nat) (aW bW : Nat) (fw : Nat → Int32) (n : Int32) (hn : 10 ≤ n.toInt ∧ n.toInt ≤ 99) : kM (S := Unit) l yX2_addNumber wsX2_addNumber ({ frames := 1, cells := 0, slots := 0, locals := 21 }) D (kT cI cL cB cZ cT) [.ref aW, .int n] [(aW, .inr (2, [.ref bW, .int 0])), (bW, .inl (cB, 11, .inl fw))] sz eV (fun _ _ => True) (fun _ => [(aW, .inr (2, [.ref bW, .int 2])), (bW, .inl (cB, 11, .inl (upd (upd fw (0 : Int32).toNatClampNeg (vp_nar .byte ((48 + ((n / 10) - (n / 10) / 10 * 10)).toUInt32 % 65536).toInt32.toInt8.toInt32)) (1 : Int32).toNatClampNeg (vp_nar .byte ((48 + ((n / 1) - (n / 1) / 10 * 10)).toUInt32 % 65536).toInt32.toInt8.toInt32))))]) 0 0 := by
  refine kStart (cc := cX2_addNumber) (maxL := 3) (ret := none) (own := RX2) (by decide) rfl rfl (Nat.le_of_ble_eq_true rfl) ?_
  intro p e s m args below meth c A ls hx hb hr hml hown hts hlocks hnm hsz hA hG hP hD hS hl
  have hK := hG.1
  have hl : lv_has ls 3 [(0, .ref aW), (1, .int n)] := hl
  refine lv_sipush (v := 1000) hx hb dX2_addNumber_0 (by decide) ?_
  refine lv_istore_n (lv' := [(2, .int 1000), (0, .ref aW), (1, .int n)]) hx hb dX2_addNumber_3 rfl hl (by decide) rfl (fun ls hl => ?_)
  refine lv_iload_n hx hb dX2_addNumber_4 rfl (lv_at hl 0 rfl) ?_
  refine lv_if_le (tgt := 40) hx hb dX2_addNumber_5 (by decide) (fun c_5_0 => ?_) (fun c_5_0 => ?_)
  · exact absurd c_5_0 (by decide)
  · have t_5_0 := c_5_0
    try simp only [kb_eq0, kb_ne0, lg_cmp_lt, lg_cmp_le, lg_cmp_gt, lg_cmp_ge, lg_cmp_eq] at t_5_0
    try simp only [Int32.lt_iff_toInt_lt, Int32.le_iff_toInt_le, ← Int32.toInt_inj, Int64.lt_iff_toInt_lt, Int64.le_iff_toInt_le, ← Int64.toInt_inj, Int32.toInt_toInt64, Int32.reduceToInt, Int64.reduceToInt] at t_5_0
    refine lv_iload_n hx hb dX2_addNumber_8 rfl (lv_at hl 2 rfl) ?_
    refine lv_iload_n hx hb dX2_addNumber_9 rfl (lv_at hl 0 rfl) ?_
    refine lv_icmp_ge (tgt := 18) hx hb dX2_addNumber_10 (by decide) (fun c_10_1 => ?_) (fun c_10_1 => ?_)
    · have t_10_1 := c_10_1
      try simp only [kb_eq0, kb_ne0, lg_cmp_lt, lg_cmp_le, lg_cmp_gt, lg_cmp_ge, lg_cmp_eq] at t_10_1
      try simp only [Int32.lt_iff_toInt_lt, Int32.le_iff_toInt_le, ← Int32.toInt_inj, Int64.lt_iff_toInt_lt, Int64.le_iff_toInt_le, ← Int64.toInt_inj, Int32.toInt_toInt64, Int32.reduceToInt, Int64.reduceToInt] at t_10_1
      omega
    · have t_10_1 := c_10_1
      try simp only [kb_eq0, kb_ne0, lg_cmp_lt, lg_cmp_le, lg_cmp_gt, lg_cmp_ge, lg_cmp_eq] at t_10_1
      try simp only [Int32.lt_iff_toInt_lt, Int32.le_iff_toInt_le, ← Int32.toInt_inj, Int64.lt_iff_toInt_lt, Int64.le_iff_toInt_le, ← Int64.toInt_inj, Int32.toInt_toInt64, Int32.reduceToInt, Int64.reduceToInt] at t_10_1
      refine lv_iload_n hx hb dX2_addNumber_13 rfl (lv_at hl 0 rfl) ?_
      refine lv_iconst (v := 1) hx hb dX2_addNumber_14 (by decide) ?_
      refine lv_icmp_ne (tgt := 32) hx hb dX2_addNumber_15 (by decide) (fun c_15_2 => ?_) (fun c_15_2 => ?_)
      · have t_15_2 := c_15_2
        try simp only [kb_eq0, kb_ne0, lg_cmp_lt, lg_cmp_le, lg_cmp_gt, lg_cmp_ge, lg_cmp_eq] at t_15_2
        try simp only [Int32.lt_iff_toInt_lt, Int32.le_iff_toInt_le, ← Int32.toInt_inj, Int64.lt_iff_toInt_lt, Int64.le_iff_toInt_le, ← Int64.toInt_inj, Int32.toInt_toInt64, Int32.reduceToInt, Int64.reduceToInt] at t_15_2
        refine lv_iload_n hx hb dX2_addNumber_32 rfl (lv_at hl 0 rfl) ?_
        refine lv_bipush (v := 10) hx hb dX2_addNumber_33 (by decide) ?_
        refine lv_idiv hx hb dX2_addNumber_35 (by decide) ?_
        refine lv_topi (fun x_4 ex_4 => ?_)
        obtain rfl : x_4 = 100 := ex_4.trans (by decide)
        refine lv_istore_n (lv' := [(2, .int 100), (0, .ref aW), (1, .int n)]) hx hb dX2_addNumber_36 rfl hl (by decide) rfl (fun ls hl => ?_)
        refine lv_goto (tgt := 4) hx hb dX2_addNumber_37 (by decide) ?_
        refine lv_iload_n hx hb dX2_addNumber_4 rfl (lv_at hl 0 rfl) ?_
        refine lv_if_le (tgt := 40) hx hb dX2_addNumber_5 (by decide) (fun c_5_4 => ?_) (fun c_5_4 => ?_)
        · exact absurd c_5_4 (by decide)
        · have t_5_4 := c_5_4
          try simp only [kb_eq0, kb_ne0, lg_cmp_lt, lg_cmp_le, lg_cmp_gt, lg_cmp_ge, lg_cmp_eq] at t_5_4
          try simp only [Int32.lt_iff_toInt_lt, Int32.le_iff_toInt_le, ← Int32.toInt_inj, Int64.lt_iff_toInt_lt, Int64.le_iff_toInt_le, ← Int64.toInt_inj, Int32.toInt_toInt64, Int32.reduceToInt, Int64.reduceToInt] at t_5_4
          refine lv_iload_n hx hb dX2_addNumber_8 rfl (lv_at hl 2 rfl) ?_
          refine lv_iload_n hx hb dX2_addNumber_9 rfl (lv_at hl 0 rfl) ?_
          refine lv_icmp_ge (tgt := 18) hx hb dX2_addNumber_10 (by decide) (fun c_10_5 => ?_) (fun c_10_5 => ?_)
          · have t_10_5 := c_10_5
            try simp only [kb_eq0, kb_ne0, lg_cmp_lt, lg_cmp_le, lg_cmp_gt, lg_cmp_ge, lg_cmp_eq] at t_10_5
            try simp only [Int32.lt_iff_toInt_lt, Int32.le_iff_toInt_le, ← Int32.toInt_inj, Int64.lt_iff_toInt_lt, Int64.le_iff_toInt_le, ← Int64.toInt_inj, Int32.toInt_toInt64, Int32.reduceToInt, Int64.reduceToInt] at t_10_5
            omega
          · have t_10_5 := c_10_5
            try simp only [kb_eq0, kb_ne0, lg_cmp_lt, lg_cmp_le, lg_cmp_gt, lg_cmp_ge, lg_cmp_eq] at t_10_5
            try simp only [Int32.lt_iff_toInt_lt, Int32.le_iff_toInt_le, ← Int32.toInt_inj, Int64.lt_iff_toInt_lt, Int64.le_iff_toInt_le, ← Int64.toInt_inj, Int32.toInt_toInt64, Int32.reduceToInt, Int64.reduceToInt] at t_10_5
            refine lv_iload_n hx hb dX2_addNumber_13 rfl (lv_at hl 0 rfl) ?_
            refine lv_iconst (v := 1) hx hb dX2_addNumber_14 (by decide) ?_
            refine lv_icmp_ne (tgt := 32) hx hb dX2_addNumber_15 (by decide) (fun c_15_6 => ?_) (fun c_15_6 => ?_)
            · have t_15_6 := c_15_6
              try simp only [kb_eq0, kb_ne0, lg_cmp_lt, lg_cmp_le, lg_cmp_gt, lg_cmp_ge, lg_cmp_eq] at t_15_6
              try simp only [Int32.lt_iff_toInt_lt, Int32.le_iff_toInt_le, ← Int32.toInt_inj, Int64.lt_iff_toInt_lt, Int64.le_iff_toInt_le, ← Int64.toInt_inj, Int32.toInt_toInt64, Int32.reduceToInt, Int64.reduceToInt] at t_15_6
              refine lv_iload_n hx hb dX2_addNumber_32 rfl (lv_at hl 0 rfl) ?_
              refine lv_bipush (v := 10) hx hb dX2_addNumber_33 (by decide) ?_
              refine lv_idiv hx hb dX2_addNumber_35 (by decide) ?_
              refine lv_topi (fun x_8 ex_8 => ?_)
              obtain rfl : x_8 = 10 := ex_8.trans (by decide)
              refine lv_istore_n (lv' := [(2, .int 10), (0, .ref aW), (1, .int n)]) hx hb dX2_addNumber_36 rfl hl (by decide) rfl (fun ls hl => ?_)
              refine lv_goto (tgt := 4) hx hb dX2_addNumber_37 (by decide) ?_
              refine lv_iload_n hx hb dX2_addNumber_4 rfl (lv_at hl 0 rfl) ?_
              refine lv_if_le (tgt := 40) hx hb dX2_addNumber_5 (by decide) (fun c_5_8 => ?_) (fun c_5_8 => ?_)
              · exact absurd c_5_8 (by decide)
              · have t_5_8 := c_5_8
                try simp only [kb_eq0, kb_ne0, lg_cmp_lt, lg_cmp_le, lg_cmp_gt, lg_cmp_ge, lg_cmp_eq] at t_5_8
                try simp only [Int32.lt_iff_toInt_lt, Int32.le_iff_toInt_le, ← Int32.toInt_inj, Int64.lt_iff_toInt_lt, Int64.le_iff_toInt_le, ← Int64.toInt_inj, Int32.toInt_toInt64, Int32.reduceToInt, Int64.reduceToInt] at t_5_8
                refine lv_iload_n hx hb dX2_addNumber_8 rfl (lv_at hl 2 rfl) ?_
                refine lv_iload_n hx hb dX2_addNumber_9 rfl (lv_at hl 0 rfl) ?_
                refine lv_icmp_ge (tgt := 18) hx hb dX2_addNumber_10 (by decide) (fun c_10_9 => ?_) (fun c_10_9 => ?_)
                · have t_10_9 := c_10_9
                  try simp only [kb_eq0, kb_ne0, lg_cmp_lt, lg_cmp_le, lg_cmp_gt, lg_cmp_ge, lg_cmp_eq] at t_10_9
                  try simp only [Int32.lt_iff_toInt_lt, Int32.le_iff_toInt_le, ← Int32.toInt_inj, Int64.lt_iff_toInt_lt, Int64.le_iff_toInt_le, ← Int64.toInt_inj, Int32.toInt_toInt64, Int32.reduceToInt, Int64.reduceToInt] at t_10_9
                  refine lv_aload_n hx hb dX2_addNumber_18 rfl (lv_at hl 1 rfl) ?_
                  refine lv_bipush (v := 48) hx hb dX2_addNumber_19 (by decide) ?_
                  refine lv_iload_n hx hb dX2_addNumber_21 rfl (lv_at hl 2 rfl) ?_
                  refine lv_iload_n hx hb dX2_addNumber_22 rfl (lv_at hl 0 rfl) ?_
                  refine lv_idiv hx hb dX2_addNumber_23 (by decide) ?_
                  refine lv_bipush (v := 10) hx hb dX2_addNumber_24 (by decide) ?_
                  refine lv_irem hx hb dX2_addNumber_26 (by decide) ?_
                  refine lv_iadd hx hb dX2_addNumber_27 ?_
                  refine lv_i2c hx hb dX2_addNumber_28 rfl ?_
                  refine kCallVd (wr := []) (va_runV (As := [.int ((48 + ((n / 10) - (n / 10) / 10 * 10)).toUInt32 % 65536).toInt32]) (rest := []) ⟨hx, hb, hml, hown, hts⟩ (c_addByte_0 l D cI cL cB cZ cT _ aW bW fw ((48 + ((n / 10) - (n / 10) / 10 * 10)).toUInt32 % 65536).toInt32) (cwV 1 hts gX2_addNumber_X2_addByte rfl rfl rfl (by decide +kernel) ⟨Nat.le_of_ble_eq_true rfl, Nat.le_of_ble_eq_true rfl⟩) (kPreV hG hP hD [0, 1] rfl (by decide) 0 2 rfl rfl rfl) rfl rfl hl.1 rfl (lv_room (Nat.le_of_ble_eq_true rfl)) dX2_addNumber_29 ⟨Nat.le_of_ble_eq_true rfl, Nat.le_of_ble_eq_true rfl⟩) hA hP hD hS [0, 1] [] rfl rfl (by decide) (by decide) (fun _ u_r_11 H locs wr_11 hP hD hS => ?_)
                  have hP : va_P D vwCl [(aW, .inr (2, [.ref bW, .int 1])), (bW, .inl (cB, 11, .inl (upd fw (0 : Int32).toNatClampNeg (vp_nar .byte (((48 + ((n / 10) - (n / 10) / 10 * 10)).toUInt32 % 65536).toInt32).toInt8.toInt32))))] H := hP
                  have hD : va_D A [(aW, .inr (2, [.ref bW, .int 1])), (bW, .inl (cB, 11, .inl (upd fw (0 : Int32).toNatClampNeg (vp_nar .byte (((48 + ((n / 10) - (n / 10) / 10 * 10)).toUInt32 % 65536).toInt32).toInt8.toInt32))))] := hD
                  try dsimp only at wr_11
                  refine lv_iload_n hx hb dX2_addNumber_32 rfl (lv_at hl 0 rfl) ?_
                  refine lv_bipush (v := 10) hx hb dX2_addNumber_33 (by decide) ?_
                  refine lv_idiv hx hb dX2_addNumber_35 (by decide) ?_
                  refine lv_topi (fun x_12 ex_12 => ?_)
                  obtain rfl : x_12 = 1 := ex_12.trans (by decide)
                  refine lv_istore_n (lv' := [(2, .int 1), (0, .ref aW), (1, .int n)]) hx hb dX2_addNumber_36 rfl hl (by decide) rfl (fun ls hl => ?_)
                  refine lv_goto (tgt := 4) hx hb dX2_addNumber_37 (by decide) ?_
                  refine lv_iload_n hx hb dX2_addNumber_4 rfl (lv_at hl 0 rfl) ?_
                  refine lv_if_le (tgt := 40) hx hb dX2_addNumber_5 (by decide) (fun c_5_12 => ?_) (fun c_5_12 => ?_)
                  · exact absurd c_5_12 (by decide)
                  · have t_5_12 := c_5_12
                    try simp only [kb_eq0, kb_ne0, lg_cmp_lt, lg_cmp_le, lg_cmp_gt, lg_cmp_ge, lg_cmp_eq] at t_5_12
                    try simp only [Int32.lt_iff_toInt_lt, Int32.le_iff_toInt_le, ← Int32.toInt_inj, Int64.lt_iff_toInt_lt, Int64.le_iff_toInt_le, ← Int64.toInt_inj, Int32.toInt_toInt64, Int32.reduceToInt, Int64.reduceToInt] at t_5_12
                    refine lv_iload_n hx hb dX2_addNumber_8 rfl (lv_at hl 2 rfl) ?_
                    refine lv_iload_n hx hb dX2_addNumber_9 rfl (lv_at hl 0 rfl) ?_
                    refine lv_icmp_ge (tgt := 18) hx hb dX2_addNumber_10 (by decide) (fun c_10_13 => ?_) (fun c_10_13 => ?_)
                    · have t_10_13 := c_10_13
                      try simp only [kb_eq0, kb_ne0, lg_cmp_lt, lg_cmp_le, lg_cmp_gt, lg_cmp_ge, lg_cmp_eq] at t_10_13
                      try simp only [Int32.lt_iff_toInt_lt, Int32.le_iff_toInt_le, ← Int32.toInt_inj, Int64.lt_iff_toInt_lt, Int64.le_iff_toInt_le, ← Int64.toInt_inj, Int32.toInt_toInt64, Int32.reduceToInt, Int64.reduceToInt] at t_10_13
                      refine lv_aload_n hx hb dX2_addNumber_18 rfl (lv_at hl 1 rfl) ?_
                      refine lv_bipush (v := 48) hx hb dX2_addNumber_19 (by decide) ?_
                      refine lv_iload_n hx hb dX2_addNumber_21 rfl (lv_at hl 2 rfl) ?_
                      refine lv_iload_n hx hb dX2_addNumber_22 rfl (lv_at hl 0 rfl) ?_
                      refine lv_idiv hx hb dX2_addNumber_23 (by decide) ?_
                      refine lv_bipush (v := 10) hx hb dX2_addNumber_24 (by decide) ?_
                      refine lv_irem hx hb dX2_addNumber_26 (by decide) ?_
                      refine lv_iadd hx hb dX2_addNumber_27 ?_
                      refine lv_i2c hx hb dX2_addNumber_28 rfl ?_
                      refine kCallVd (wr := []) (va_runV (As := [.int ((48 + ((n / 1) - (n / 1) / 10 * 10)).toUInt32 % 65536).toInt32]) (rest := []) ⟨hx, hb, hml, hown, hts⟩ (c_addByte_1 l D cI cL cB cZ cT _ aW bW (upd fw (0 : Int32).toNatClampNeg (vp_nar .byte (((48 + ((n / 10) - (n / 10) / 10 * 10)).toUInt32 % 65536).toInt32).toInt8.toInt32)) ((48 + ((n / 1) - (n / 1) / 10 * 10)).toUInt32 % 65536).toInt32) (cwV 1 hts gX2_addNumber_X2_addByte rfl rfl rfl (by decide +kernel) ⟨Nat.le_of_ble_eq_true rfl, Nat.le_of_ble_eq_true rfl⟩) (kPreV hG hP hD [0, 1] rfl (by decide) 0 2 rfl rfl rfl) rfl rfl hl.1 rfl (lv_room (Nat.le_of_ble_eq_true rfl)) dX2_addNumber_29 ⟨Nat.le_of_ble_eq_true rfl, Nat.le_of_ble_eq_true rfl⟩) hA hP hD hS [0, 1] [] rfl rfl (by decide) (by decide) (fun _ u_r_15 H locs wr_15 hP hD hS => ?_)
                      have hP : va_P D vwCl [(aW, .inr (2, [.ref bW, .int 2])), (bW, .inl (cB, 11, .inl (upd (upd fw (0 : Int32).toNatClampNeg (vp_nar .byte (((48 + ((n / 10) - (n / 10) / 10 * 10)).toUInt32 % 65536).toInt32).toInt8.toInt32)) (1 : Int32).toNatClampNeg (vp_nar .byte (((48 + ((n / 1) - (n / 1) / 10 * 10)).toUInt32 % 65536).toInt32).toInt8.toInt32))))] H := hP
                      have hD : va_D A [(aW, .inr (2, [.ref bW, .int 2])), (bW, .inl (cB, 11, .inl (upd (upd fw (0 : Int32).toNatClampNeg (vp_nar .byte (((48 + ((n / 10) - (n / 10) / 10 * 10)).toUInt32 % 65536).toInt32).toInt8.toInt32)) (1 : Int32).toNatClampNeg (vp_nar .byte (((48 + ((n / 1) - (n / 1) / 10 * 10)).toUInt32 % 65536).toInt32).toInt8.toInt32))))] := hD
                      try dsimp only at wr_15
                      refine lv_iload_n hx hb dX2_addNumber_32 rfl (lv_at hl 0 rfl) ?_
                      refine lv_bipush (v := 10) hx hb dX2_addNumber_33 (by decide) ?_
                      refine lv_idiv hx hb dX2_addNumber_35 (by decide) ?_
                      refine lv_topi (fun x_16 ex_16 => ?_)
                      obtain rfl : x_16 = 0 := ex_16.trans (by decide)
                      refine lv_istore_n (lv' := [(2, .int 0), (0, .ref aW), (1, .int n)]) hx hb dX2_addNumber_36 rfl hl (by decide) rfl (fun ls hl => ?_)
                      refine lv_goto (tgt := 4) hx hb dX2_addNumber_37 (by decide) ?_
                      refine lv_iload_n hx hb dX2_addNumber_4 rfl (lv_at hl 0 rfl) ?_
                      refine lv_if_le (tgt := 40) hx hb dX2_addNumber_5 (by decide) (fun c_5_16 => ?_) (fun c_5_16 => ?_)
                      · have t_5_16 := c_5_16
                        try simp only [kb_eq0, kb_ne0, lg_cmp_lt, lg_cmp_le, lg_cmp_gt, lg_cmp_ge, lg_cmp_eq] at t_5_16
                        try simp only [Int32.lt_iff_toInt_lt, Int32.le_iff_toInt_le, ← Int32.toInt_inj, Int64.lt_iff_toInt_lt, Int64.le_iff_toInt_le, ← Int64.toInt_inj, Int32.toInt_toInt64, Int32.reduceToInt, Int64.reduceToInt] at t_5_16
                        refine kVret (u := ()) hx hb hr hlocks hS dX2_addNumber_40 ?_ (hP.sub [0, 1] rfl) (hD.sub [0, 1] (by decide) rfl)
                        exact trivial
                      · exact absurd (by decide) c_5_16
                    · have t_10_13 := c_10_13
                      try simp only [kb_eq0, kb_ne0, lg_cmp_lt, lg_cmp_le, lg_cmp_gt, lg_cmp_ge, lg_cmp_eq] at t_10_13
                      try simp only [Int32.lt_iff_toInt_lt, Int32.le_iff_toInt_le, ← Int32.toInt_inj, Int64.lt_iff_toInt_lt, Int64.le_iff_toInt_le, ← Int64.toInt_inj, Int32.toInt_toInt64, Int32.reduceToInt, Int64.reduceToInt] at t_10_13
                      refine lv_iload_n hx hb dX2_addNumber_13 rfl (lv_at hl 0 rfl) ?_
                      refine lv_iconst (v := 1) hx hb dX2_addNumber_14 (by decide) ?_
                      refine lv_icmp_ne (tgt := 32) hx hb dX2_addNumber_15 (by decide) (fun c_15_17 => ?_) (fun c_15_17 => ?_)
                      · exact absurd (by decide) c_15_17
                      · have t_15_17 := c_15_17
                        try simp only [kb_eq0, kb_ne0, lg_cmp_lt, lg_cmp_le, lg_cmp_gt, lg_cmp_ge, lg_cmp_eq] at t_15_17
                        try simp only [Int32.lt_iff_toInt_lt, Int32.le_iff_toInt_le, ← Int32.toInt_inj, Int64.lt_iff_toInt_lt, Int64.le_iff_toInt_le, ← Int64.toInt_inj, Int32.toInt_toInt64, Int32.reduceToInt, Int64.reduceToInt] at t_15_17
                        refine lv_aload_n hx hb dX2_addNumber_18 rfl (lv_at hl 1 rfl) ?_
                        refine lv_bipush (v := 48) hx hb dX2_addNumber_19 (by decide) ?_
                        refine lv_iload_n hx hb dX2_addNumber_21 rfl (lv_at hl 2 rfl) ?_
                        refine lv_iload_n hx hb dX2_addNumber_22 rfl (lv_at hl 0 rfl) ?_
                        refine lv_idiv hx hb dX2_addNumber_23 (by decide) ?_
                        refine lv_bipush (v := 10) hx hb dX2_addNumber_24 (by decide) ?_
                        refine lv_irem hx hb dX2_addNumber_26 (by decide) ?_
                        refine lv_iadd hx hb dX2_addNumber_27 ?_
                        refine lv_i2c hx hb dX2_addNumber_28 rfl ?_
                        refine kCallVd (wr := []) (va_runV (As := [.int ((48 + ((n / 1) - (n / 1) / 10 * 10)).toUInt32 % 65536).toInt32]) (rest := []) ⟨hx, hb, hml, hown, hts⟩ (c_addByte_1 l D cI cL cB cZ cT _ aW bW (upd fw (0 : Int32).toNatClampNeg (vp_nar .byte (((48 + ((n / 10) - (n / 10) / 10 * 10)).toUInt32 % 65536).toInt32).toInt8.toInt32)) ((48 + ((n / 1) - (n / 1) / 10 * 10)).toUInt32 % 65536).toInt32) (cwV 1 hts gX2_addNumber_X2_addByte rfl rfl rfl (by decide +kernel) ⟨Nat.le_of_ble_eq_true rfl, Nat.le_of_ble_eq_true rfl⟩) (kPreV hG hP hD [0, 1] rfl (by decide) 0 2 rfl rfl rfl) rfl rfl hl.1 rfl (lv_room (Nat.le_of_ble_eq_true rfl)) dX2_addNumber_29 ⟨Nat.le_of_ble_eq_true rfl, Nat.le_of_ble_eq_true rfl⟩) hA hP hD hS [0, 1] [] rfl rfl (by decide) (by decide) (fun _ u_r_19 H locs wr_19 hP hD hS => ?_)
                        have hP : va_P D vwCl [(aW, .inr (2, [.ref bW, .int 2])), (bW, .inl (cB, 11, .inl (upd (upd fw (0 : Int32).toNatClampNeg (vp_nar .byte (((48 + ((n / 10) - (n / 10) / 10 * 10)).toUInt32 % 65536).toInt32).toInt8.toInt32)) (1 : Int32).toNatClampNeg (vp_nar .byte (((48 + ((n / 1) - (n / 1) / 10 * 10)).toUInt32 % 65536).toInt32).toInt8.toInt32))))] H := hP
                        have hD : va_D A [(aW, .inr (2, [.ref bW, .int 2])), (bW, .inl (cB, 11, .inl (upd (upd fw (0 : Int32).toNatClampNeg (vp_nar .byte (((48 + ((n / 10) - (n / 10) / 10 * 10)).toUInt32 % 65536).toInt32).toInt8.toInt32)) (1 : Int32).toNatClampNeg (vp_nar .byte (((48 + ((n / 1) - (n / 1) / 10 * 10)).toUInt32 % 65536).toInt32).toInt8.toInt32))))] := hD
                        try dsimp only at wr_19
                        refine lv_iload_n hx hb dX2_addNumber_32 rfl (lv_at hl 0 rfl) ?_
                        refine lv_bipush (v := 10) hx hb dX2_addNumber_33 (by decide) ?_
                        refine lv_idiv hx hb dX2_addNumber_35 (by decide) ?_
                        refine lv_topi (fun x_20 ex_20 => ?_)
                        obtain rfl : x_20 = 0 := ex_20.trans (by decide)
                        refine lv_istore_n (lv' := [(2, .int 0), (0, .ref aW), (1, .int n)]) hx hb dX2_addNumber_36 rfl hl (by decide) rfl (fun ls hl => ?_)
                        refine lv_goto (tgt := 4) hx hb dX2_addNumber_37 (by decide) ?_
                        refine lv_iload_n hx hb dX2_addNumber_4 rfl (lv_at hl 0 rfl) ?_
                        refine lv_if_le (tgt := 40) hx hb dX2_addNumber_5 (by decide) (fun c_5_20 => ?_) (fun c_5_20 => ?_)
                        · have t_5_20 := c_5_20
                          try simp only [kb_eq0, kb_ne0, lg_cmp_lt, lg_cmp_le, lg_cmp_gt, lg_cmp_ge, lg_cmp_eq] at t_5_20
                          try simp only [Int32.lt_iff_toInt_lt, Int32.le_iff_toInt_le, ← Int32.toInt_inj, Int64.lt_iff_toInt_lt, Int64.le_iff_toInt_le, ← Int64.toInt_inj, Int32.toInt_toInt64, Int32.reduceToInt, Int64.reduceToInt] at t_5_20
                          refine kVret (u := ()) hx hb hr hlocks hS dX2_addNumber_40 ?_ (hP.sub [0, 1] rfl) (hD.sub [0, 1] (by decide) rfl)
                          exact trivial
                        · exact absurd (by decide) c_5_20
                · have t_10_9 := c_10_9
                  try simp only [kb_eq0, kb_ne0, lg_cmp_lt, lg_cmp_le, lg_cmp_gt, lg_cmp_ge, lg_cmp_eq] at t_10_9
                  try simp only [Int32.lt_iff_toInt_lt, Int32.le_iff_toInt_le, ← Int32.toInt_inj, Int64.lt_iff_toInt_lt, Int64.le_iff_toInt_le, ← Int64.toInt_inj, Int32.toInt_toInt64, Int32.reduceToInt, Int64.reduceToInt] at t_10_9
                  omega
            · exact absurd c_15_6 (by decide)
      · exact absurd c_15_2 (by decide)
set_option maxRecDepth 100000 in
set_option maxHeartbeats 4000000 in
theorem c_addN_3 (l : Launch) (D : va_G) (cI cL cB cZ cT : ClassId) (sz : Nat) (aW bW : Nat) (fw : Nat → Int32) (n : Int32) (hn : 100 ≤ n.toInt ∧ n.toInt ≤ 511) : kM (S := Unit) l yX2_addNumber wsX2_addNumber ({ frames := 1, cells := 0, slots := 0, locals := 21 }) D (kT cI cL cB cZ cT) [.ref aW, .int n] [(aW, .inr (2, [.ref bW, .int 0])), (bW, .inl (cB, 11, .inl fw))] sz eV (fun _ _ => True) (fun _ => [(aW, .inr (2, [.ref bW, .int 3])), (bW, .inl (cB, 11, .inl (upd (upd (upd fw (0 : Int32).toNatClampNeg (vp_nar .byte ((48 + ((n / 100) - (n / 100) / 10 * 10)).toUInt32 % 65536).toInt32.toInt8.toInt32)) (1 : Int32).toNatClampNeg (vp_nar .byte ((48 + ((n / 10) - (n / 10) / 10 * 10)).toUInt32 % 65536).toInt32.toInt8.toInt32)) (2 : Int32).toNatClampNeg (vp_nar .byte ((48 + ((n / 1) - (n / 1) / 10 * 10)).toUInt32 % 65536).toInt32.toInt8.toInt32))))]) 0 0 := by
  refine kStart (cc := cX2_addNumber) (maxL := 3) (ret := none) (own := RX2) (by decide) rfl rfl (Nat.le_of_ble_eq_true rfl) ?_
  intro p e s m args below meth c A ls hx hb hr hml hown hts hlocks hnm hsz hA hG hP hD hS hl
  have hK := hG.1
  have hl : lv_has ls 3 [(0, .ref aW), (1, .int n)] := hl
  refine lv_sipush (v := 1000) hx hb dX2_addNumber_0 (by decide) ?_
  refine lv_istore_n (lv' := [(2, .int 1000), (0, .ref aW), (1, .int n)]) hx hb dX2_addNumber_3 rfl hl (by decide) rfl (fun ls hl => ?_)
  refine lv_iload_n hx hb dX2_addNumber_4 rfl (lv_at hl 0 rfl) ?_
  refine lv_if_le (tgt := 40) hx hb dX2_addNumber_5 (by decide) (fun c_5_0 => ?_) (fun c_5_0 => ?_)
  · exact absurd c_5_0 (by decide)
  · have t_5_0 := c_5_0
    try simp only [kb_eq0, kb_ne0, lg_cmp_lt, lg_cmp_le, lg_cmp_gt, lg_cmp_ge, lg_cmp_eq] at t_5_0
    try simp only [Int32.lt_iff_toInt_lt, Int32.le_iff_toInt_le, ← Int32.toInt_inj, Int64.lt_iff_toInt_lt, Int64.le_iff_toInt_le, ← Int64.toInt_inj, Int32.toInt_toInt64, Int32.reduceToInt, Int64.reduceToInt] at t_5_0
    refine lv_iload_n hx hb dX2_addNumber_8 rfl (lv_at hl 2 rfl) ?_
    refine lv_iload_n hx hb dX2_addNumber_9 rfl (lv_at hl 0 rfl) ?_
    refine lv_icmp_ge (tgt := 18) hx hb dX2_addNumber_10 (by decide) (fun c_10_1 => ?_) (fun c_10_1 => ?_)
    · have t_10_1 := c_10_1
      try simp only [kb_eq0, kb_ne0, lg_cmp_lt, lg_cmp_le, lg_cmp_gt, lg_cmp_ge, lg_cmp_eq] at t_10_1
      try simp only [Int32.lt_iff_toInt_lt, Int32.le_iff_toInt_le, ← Int32.toInt_inj, Int64.lt_iff_toInt_lt, Int64.le_iff_toInt_le, ← Int64.toInt_inj, Int32.toInt_toInt64, Int32.reduceToInt, Int64.reduceToInt] at t_10_1
      omega
    · have t_10_1 := c_10_1
      try simp only [kb_eq0, kb_ne0, lg_cmp_lt, lg_cmp_le, lg_cmp_gt, lg_cmp_ge, lg_cmp_eq] at t_10_1
      try simp only [Int32.lt_iff_toInt_lt, Int32.le_iff_toInt_le, ← Int32.toInt_inj, Int64.lt_iff_toInt_lt, Int64.le_iff_toInt_le, ← Int64.toInt_inj, Int32.toInt_toInt64, Int32.reduceToInt, Int64.reduceToInt] at t_10_1
      refine lv_iload_n hx hb dX2_addNumber_13 rfl (lv_at hl 0 rfl) ?_
      refine lv_iconst (v := 1) hx hb dX2_addNumber_14 (by decide) ?_
      refine lv_icmp_ne (tgt := 32) hx hb dX2_addNumber_15 (by decide) (fun c_15_2 => ?_) (fun c_15_2 => ?_)
      · have t_15_2 := c_15_2
        try simp only [kb_eq0, kb_ne0, lg_cmp_lt, lg_cmp_le, lg_cmp_gt, lg_cmp_ge, lg_cmp_eq] at t_15_2
        try simp only [Int32.lt_iff_toInt_lt, Int32.le_iff_toInt_le, ← Int32.toInt_inj, Int64.lt_iff_toInt_lt, Int64.le_iff_toInt_le, ← Int64.toInt_inj, Int32.toInt_toInt64, Int32.reduceToInt, Int64.reduceToInt] at t_15_2
        refine lv_iload_n hx hb dX2_addNumber_32 rfl (lv_at hl 0 rfl) ?_
        refine lv_bipush (v := 10) hx hb dX2_addNumber_33 (by decide) ?_
        refine lv_idiv hx hb dX2_addNumber_35 (by decide) ?_
        refine lv_topi (fun x_4 ex_4 => ?_)
        obtain rfl : x_4 = 100 := ex_4.trans (by decide)
        refine lv_istore_n (lv' := [(2, .int 100), (0, .ref aW), (1, .int n)]) hx hb dX2_addNumber_36 rfl hl (by decide) rfl (fun ls hl => ?_)
        refine lv_goto (tgt := 4) hx hb dX2_addNumber_37 (by decide) ?_
        refine lv_iload_n hx hb dX2_addNumber_4 rfl (lv_at hl 0 rfl) ?_
        refine lv_if_le (tgt := 40) hx hb dX2_addNumber_5 (by decide) (fun c_5_4 => ?_) (fun c_5_4 => ?_)
        · exact absurd c_5_4 (by decide)
        · have t_5_4 := c_5_4
          try simp only [kb_eq0, kb_ne0, lg_cmp_lt, lg_cmp_le, lg_cmp_gt, lg_cmp_ge, lg_cmp_eq] at t_5_4
          try simp only [Int32.lt_iff_toInt_lt, Int32.le_iff_toInt_le, ← Int32.toInt_inj, Int64.lt_iff_toInt_lt, Int64.le_iff_toInt_le, ← Int64.toInt_inj, Int32.toInt_toInt64, Int32.reduceToInt, Int64.reduceToInt] at t_5_4
          refine lv_iload_n hx hb dX2_addNumber_8 rfl (lv_at hl 2 rfl) ?_
          refine lv_iload_n hx hb dX2_addNumber_9 rfl (lv_at hl 0 rfl) ?_
          refine lv_icmp_ge (tgt := 18) hx hb dX2_addNumber_10 (by decide) (fun c_10_5 => ?_) (fun c_10_5 => ?_)
          · have t_10_5 := c_10_5
            try simp only [kb_eq0, kb_ne0, lg_cmp_lt, lg_cmp_le, lg_cmp_gt, lg_cmp_ge, lg_cmp_eq] at t_10_5
            try simp only [Int32.lt_iff_toInt_lt, Int32.le_iff_toInt_le, ← Int32.toInt_inj, Int64.lt_iff_toInt_lt, Int64.le_iff_toInt_le, ← Int64.toInt_inj, Int32.toInt_toInt64, Int32.reduceToInt, Int64.reduceToInt] at t_10_5
            refine lv_aload_n hx hb dX2_addNumber_18 rfl (lv_at hl 1 rfl) ?_
            refine lv_bipush (v := 48) hx hb dX2_addNumber_19 (by decide) ?_
            refine lv_iload_n hx hb dX2_addNumber_21 rfl (lv_at hl 2 rfl) ?_
            refine lv_iload_n hx hb dX2_addNumber_22 rfl (lv_at hl 0 rfl) ?_
            refine lv_idiv hx hb dX2_addNumber_23 (by decide) ?_
            refine lv_bipush (v := 10) hx hb dX2_addNumber_24 (by decide) ?_
            refine lv_irem hx hb dX2_addNumber_26 (by decide) ?_
            refine lv_iadd hx hb dX2_addNumber_27 ?_
            refine lv_i2c hx hb dX2_addNumber_28 rfl ?_
            refine kCallVd (wr := []) (va_runV (As := [.int ((48 + ((n / 100) - (n / 100) / 10 * 10)).toUInt32 % 65536).toInt32]) (rest := []) ⟨hx, hb, hml, hown, hts⟩ (c_addByte_0 l D cI cL cB cZ cT _ aW bW fw ((48 + ((n / 100) - (n / 100) / 10 * 10)).toUInt32 % 65536).toInt32) (cwV 1 hts gX2_addNumber_X2_addByte rfl rfl rfl (by decide +kernel) ⟨Nat.le_of_ble_eq_true rfl, Nat.le_of_ble_eq_true rfl⟩) (kPreV hG hP hD [0, 1] rfl (by decide) 0 2 rfl rfl rfl) rfl rfl hl.1 rfl (lv_room (Nat.le_of_ble_eq_true rfl)) dX2_addNumber_29 ⟨Nat.le_of_ble_eq_true rfl, Nat.le_of_ble_eq_true rfl⟩) hA hP hD hS [0, 1] [] rfl rfl (by decide) (by decide) (fun _ u_r_7 H locs wr_7 hP hD hS => ?_)
            have hP : va_P D vwCl [(aW, .inr (2, [.ref bW, .int 1])), (bW, .inl (cB, 11, .inl (upd fw (0 : Int32).toNatClampNeg (vp_nar .byte (((48 + ((n / 100) - (n / 100) / 10 * 10)).toUInt32 % 65536).toInt32).toInt8.toInt32))))] H := hP
            have hD : va_D A [(aW, .inr (2, [.ref bW, .int 1])), (bW, .inl (cB, 11, .inl (upd fw (0 : Int32).toNatClampNeg (vp_nar .byte (((48 + ((n / 100) - (n / 100) / 10 * 10)).toUInt32 % 65536).toInt32).toInt8.toInt32))))] := hD
            try dsimp only at wr_7
            refine lv_iload_n hx hb dX2_addNumber_32 rfl (lv_at hl 0 rfl) ?_
            refine lv_bipush (v := 10) hx hb dX2_addNumber_33 (by decide) ?_
            refine lv_idiv hx hb dX2_addNumber_35 (by decide) ?_
            refine lv_topi (fun x_8 ex_8 => ?_)
            obtain rfl : x_8 = 10 := ex_8.trans (by decide)
            refine lv_istore_n (lv' := [(2, .int 10), (0, .ref aW), (1, .int n)]) hx hb dX2_addNumber_36 rfl hl (by decide) rfl (fun ls hl => ?_)
            refine lv_goto (tgt := 4) hx hb dX2_addNumber_37 (by decide) ?_
            refine lv_iload_n hx hb dX2_addNumber_4 rfl (lv_at hl 0 rfl) ?_
            refine lv_if_le (tgt := 40) hx hb dX2_addNumber_5 (by decide) (fun c_5_8 => ?_) (fun c_5_8 => ?_)
            · exact absurd c_5_8 (by decide)
            · have t_5_8 := c_5_8
              try simp only [kb_eq0, kb_ne0, lg_cmp_lt, lg_cmp_le, lg_cmp_gt, lg_cmp_ge, lg_cmp_eq] at t_5_8
              try simp only [Int32.lt_iff_toInt_lt, Int32.le_iff_toInt_le, ← Int32.toInt_inj, Int64.lt_iff_toInt_lt, Int64.le_iff_toInt_le, ← Int64.toInt_inj, Int32.toInt_toInt64, Int32.reduceToInt, Int64.reduceToInt] at t_5_8
              refine lv_iload_n hx hb dX2_addNumber_8 rfl (lv_at hl 2 rfl) ?_
              refine lv_iload_n hx hb dX2_addNumber_9 rfl (lv_at hl 0 rfl) ?_
              refine lv_icmp_ge (tgt := 18) hx hb dX2_addNumber_10 (by decide) (fun c_10_9 => ?_) (fun c_10_9 => ?_)
              · have t_10_9 := c_10_9
                try simp only [kb_eq0, kb_ne0, lg_cmp_lt, lg_cmp_le, lg_cmp_gt, lg_cmp_ge, lg_cmp_eq] at t_10_9
                try simp only [Int32.lt_iff_toInt_lt, Int32.le_iff_toInt_le, ← Int32.toInt_inj, Int64.lt_iff_toInt_lt, Int64.le_iff_toInt_le, ← Int64.toInt_inj, Int32.toInt_toInt64, Int32.reduceToInt, Int64.reduceToInt] at t_10_9
                refine lv_aload_n hx hb dX2_addNumber_18 rfl (lv_at hl 1 rfl) ?_
                refine lv_bipush (v := 48) hx hb dX2_addNumber_19 (by decide) ?_
                refine lv_iload_n hx hb dX2_addNumber_21 rfl (lv_at hl 2 rfl) ?_
                refine lv_iload_n hx hb dX2_addNumber_22 rfl (lv_at hl 0 rfl) ?_
                refine lv_idiv hx hb dX2_addNumber_23 (by decide) ?_
                refine lv_bipush (v := 10) hx hb dX2_addNumber_24 (by decide) ?_
                refine lv_irem hx hb dX2_addNumber_26 (by decide) ?_
                refine lv_iadd hx hb dX2_addNumber_27 ?_
                refine lv_i2c hx hb dX2_addNumber_28 rfl ?_
                refine kCallVd (wr := []) (va_runV (As := [.int ((48 + ((n / 10) - (n / 10) / 10 * 10)).toUInt32 % 65536).toInt32]) (rest := []) ⟨hx, hb, hml, hown, hts⟩ (c_addByte_1 l D cI cL cB cZ cT _ aW bW (upd fw (0 : Int32).toNatClampNeg (vp_nar .byte (((48 + ((n / 100) - (n / 100) / 10 * 10)).toUInt32 % 65536).toInt32).toInt8.toInt32)) ((48 + ((n / 10) - (n / 10) / 10 * 10)).toUInt32 % 65536).toInt32) (cwV 1 hts gX2_addNumber_X2_addByte rfl rfl rfl (by decide +kernel) ⟨Nat.le_of_ble_eq_true rfl, Nat.le_of_ble_eq_true rfl⟩) (kPreV hG hP hD [0, 1] rfl (by decide) 0 2 rfl rfl rfl) rfl rfl hl.1 rfl (lv_room (Nat.le_of_ble_eq_true rfl)) dX2_addNumber_29 ⟨Nat.le_of_ble_eq_true rfl, Nat.le_of_ble_eq_true rfl⟩) hA hP hD hS [0, 1] [] rfl rfl (by decide) (by decide) (fun _ u_r_11 H locs wr_11 hP hD hS => ?_)
                have hP : va_P D vwCl [(aW, .inr (2, [.ref bW, .int 2])), (bW, .inl (cB, 11, .inl (upd (upd fw (0 : Int32).toNatClampNeg (vp_nar .byte (((48 + ((n / 100) - (n / 100) / 10 * 10)).toUInt32 % 65536).toInt32).toInt8.toInt32)) (1 : Int32).toNatClampNeg (vp_nar .byte (((48 + ((n / 10) - (n / 10) / 10 * 10)).toUInt32 % 65536).toInt32).toInt8.toInt32))))] H := hP
                have hD : va_D A [(aW, .inr (2, [.ref bW, .int 2])), (bW, .inl (cB, 11, .inl (upd (upd fw (0 : Int32).toNatClampNeg (vp_nar .byte (((48 + ((n / 100) - (n / 100) / 10 * 10)).toUInt32 % 65536).toInt32).toInt8.toInt32)) (1 : Int32).toNatClampNeg (vp_nar .byte (((48 + ((n / 10) - (n / 10) / 10 * 10)).toUInt32 % 65536).toInt32).toInt8.toInt32))))] := hD
                try dsimp only at wr_11
                refine lv_iload_n hx hb dX2_addNumber_32 rfl (lv_at hl 0 rfl) ?_
                refine lv_bipush (v := 10) hx hb dX2_addNumber_33 (by decide) ?_
                refine lv_idiv hx hb dX2_addNumber_35 (by decide) ?_
                refine lv_topi (fun x_12 ex_12 => ?_)
                obtain rfl : x_12 = 1 := ex_12.trans (by decide)
                refine lv_istore_n (lv' := [(2, .int 1), (0, .ref aW), (1, .int n)]) hx hb dX2_addNumber_36 rfl hl (by decide) rfl (fun ls hl => ?_)
                refine lv_goto (tgt := 4) hx hb dX2_addNumber_37 (by decide) ?_
                refine lv_iload_n hx hb dX2_addNumber_4 rfl (lv_at hl 0 rfl) ?_
                refine lv_if_le (tgt := 40) hx hb dX2_addNumber_5 (by decide) (fun c_5_12 => ?_) (fun c_5_12 => ?_)
                · exact absurd c_5_12 (by decide)
                · have t_5_12 := c_5_12
                  try simp only [kb_eq0, kb_ne0, lg_cmp_lt, lg_cmp_le, lg_cmp_gt, lg_cmp_ge, lg_cmp_eq] at t_5_12
                  try simp only [Int32.lt_iff_toInt_lt, Int32.le_iff_toInt_le, ← Int32.toInt_inj, Int64.lt_iff_toInt_lt, Int64.le_iff_toInt_le, ← Int64.toInt_inj, Int32.toInt_toInt64, Int32.reduceToInt, Int64.reduceToInt] at t_5_12
                  refine lv_iload_n hx hb dX2_addNumber_8 rfl (lv_at hl 2 rfl) ?_
                  refine lv_iload_n hx hb dX2_addNumber_9 rfl (lv_at hl 0 rfl) ?_
                  refine lv_icmp_ge (tgt := 18) hx hb dX2_addNumber_10 (by decide) (fun c_10_13 => ?_) (fun c_10_13 => ?_)
                  · have t_10_13 := c_10_13
                    try simp only [kb_eq0, kb_ne0, lg_cmp_lt, lg_cmp_le, lg_cmp_gt, lg_cmp_ge, lg_cmp_eq] at t_10_13
                    try simp only [Int32.lt_iff_toInt_lt, Int32.le_iff_toInt_le, ← Int32.toInt_inj, Int64.lt_iff_toInt_lt, Int64.le_iff_toInt_le, ← Int64.toInt_inj, Int32.toInt_toInt64, Int32.reduceToInt, Int64.reduceToInt] at t_10_13
                    refine lv_aload_n hx hb dX2_addNumber_18 rfl (lv_at hl 1 rfl) ?_
                    refine lv_bipush (v := 48) hx hb dX2_addNumber_19 (by decide) ?_
                    refine lv_iload_n hx hb dX2_addNumber_21 rfl (lv_at hl 2 rfl) ?_
                    refine lv_iload_n hx hb dX2_addNumber_22 rfl (lv_at hl 0 rfl) ?_
                    refine lv_idiv hx hb dX2_addNumber_23 (by decide) ?_
                    refine lv_bipush (v := 10) hx hb dX2_addNumber_24 (by decide) ?_
                    refine lv_irem hx hb dX2_addNumber_26 (by decide) ?_
                    refine lv_iadd hx hb dX2_addNumber_27 ?_
                    refine lv_i2c hx hb dX2_addNumber_28 rfl ?_
                    refine kCallVd (wr := []) (va_runV (As := [.int ((48 + ((n / 1) - (n / 1) / 10 * 10)).toUInt32 % 65536).toInt32]) (rest := []) ⟨hx, hb, hml, hown, hts⟩ (c_addByte_2 l D cI cL cB cZ cT _ aW bW (upd (upd fw (0 : Int32).toNatClampNeg (vp_nar .byte (((48 + ((n / 100) - (n / 100) / 10 * 10)).toUInt32 % 65536).toInt32).toInt8.toInt32)) (1 : Int32).toNatClampNeg (vp_nar .byte (((48 + ((n / 10) - (n / 10) / 10 * 10)).toUInt32 % 65536).toInt32).toInt8.toInt32)) ((48 + ((n / 1) - (n / 1) / 10 * 10)).toUInt32 % 65536).toInt32) (cwV 1 hts gX2_addNumber_X2_addByte rfl rfl rfl (by decide +kernel) ⟨Nat.le_of_ble_eq_true rfl, Nat.le_of_ble_eq_true rfl⟩) (kPreV hG hP hD [0, 1] rfl (by decide) 0 2 rfl rfl rfl) rfl rfl hl.1 rfl (lv_room (Nat.le_of_ble_eq_true rfl)) dX2_addNumber_29 ⟨Nat.le_of_ble_eq_true rfl, Nat.le_of_ble_eq_true rfl⟩) hA hP hD hS [0, 1] [] rfl rfl (by decide) (by decide) (fun _ u_r_15 H locs wr_15 hP hD hS => ?_)
                    have hP : va_P D vwCl [(aW, .inr (2, [.ref bW, .int 3])), (bW, .inl (cB, 11, .inl (upd (upd (upd fw (0 : Int32).toNatClampNeg (vp_nar .byte (((48 + ((n / 100) - (n / 100) / 10 * 10)).toUInt32 % 65536).toInt32).toInt8.toInt32)) (1 : Int32).toNatClampNeg (vp_nar .byte (((48 + ((n / 10) - (n / 10) / 10 * 10)).toUInt32 % 65536).toInt32).toInt8.toInt32)) (2 : Int32).toNatClampNeg (vp_nar .byte (((48 + ((n / 1) - (n / 1) / 10 * 10)).toUInt32 % 65536).toInt32).toInt8.toInt32))))] H := hP
                    have hD : va_D A [(aW, .inr (2, [.ref bW, .int 3])), (bW, .inl (cB, 11, .inl (upd (upd (upd fw (0 : Int32).toNatClampNeg (vp_nar .byte (((48 + ((n / 100) - (n / 100) / 10 * 10)).toUInt32 % 65536).toInt32).toInt8.toInt32)) (1 : Int32).toNatClampNeg (vp_nar .byte (((48 + ((n / 10) - (n / 10) / 10 * 10)).toUInt32 % 65536).toInt32).toInt8.toInt32)) (2 : Int32).toNatClampNeg (vp_nar .byte (((48 + ((n / 1) - (n / 1) / 10 * 10)).toUInt32 % 65536).toInt32).toInt8.toInt32))))] := hD
                    try dsimp only at wr_15
                    refine lv_iload_n hx hb dX2_addNumber_32 rfl (lv_at hl 0 rfl) ?_
                    refine lv_bipush (v := 10) hx hb dX2_addNumber_33 (by decide) ?_
                    refine lv_idiv hx hb dX2_addNumber_35 (by decide) ?_
                    refine lv_topi (fun x_16 ex_16 => ?_)
                    obtain rfl : x_16 = 0 := ex_16.trans (by decide)
                    refine lv_istore_n (lv' := [(2, .int 0), (0, .ref aW), (1, .int n)]) hx hb dX2_addNumber_36 rfl hl (by decide) rfl (fun ls hl => ?_)
                    refine lv_goto (tgt := 4) hx hb dX2_addNumber_37 (by decide) ?_
                    refine lv_iload_n hx hb dX2_addNumber_4 rfl (lv_at hl 0 rfl) ?_
                    refine lv_if_le (tgt := 40) hx hb dX2_addNumber_5 (by decide) (fun c_5_16 => ?_) (fun c_5_16 => ?_)
                    · have t_5_16 := c_5_16
                      try simp only [kb_eq0, kb_ne0, lg_cmp_lt, lg_cmp_le, lg_cmp_gt, lg_cmp_ge, lg_cmp_eq] at t_5_16
                      try simp only [Int32.lt_iff_toInt_lt, Int32.le_iff_toInt_le, ← Int32.toInt_inj, Int64.lt_iff_toInt_lt, Int64.le_iff_toInt_le, ← Int64.toInt_inj, Int32.toInt_toInt64, Int32.reduceToInt, Int64.reduceToInt] at t_5_16
                      refine kVret (u := ()) hx hb hr hlocks hS dX2_addNumber_40 ?_ (hP.sub [0, 1] rfl) (hD.sub [0, 1] (by decide) rfl)
                      exact trivial
                    · exact absurd (by decide) c_5_16
                  · have t_10_13 := c_10_13
                    try simp only [kb_eq0, kb_ne0, lg_cmp_lt, lg_cmp_le, lg_cmp_gt, lg_cmp_ge, lg_cmp_eq] at t_10_13
                    try simp only [Int32.lt_iff_toInt_lt, Int32.le_iff_toInt_le, ← Int32.toInt_inj, Int64.lt_iff_toInt_lt, Int64.le_iff_toInt_le, ← Int64.toInt_inj, Int32.toInt_toInt64, Int32.reduceToInt, Int64.reduceToInt] at t_10_13
                    refine lv_iload_n hx hb dX2_addNumber_13 rfl (lv_at hl 0 rfl) ?_
                    refine lv_iconst (v := 1) hx hb dX2_addNumber_14 (by decide) ?_
                    refine lv_icmp_ne (tgt := 32) hx hb dX2_addNumber_15 (by decide) (fun c_15_17 => ?_) (fun c_15_17 => ?_)
                    · exact absurd (by decide) c_15_17
                    · have t_15_17 := c_15_17
                      try simp only [kb_eq0, kb_ne0, lg_cmp_lt, lg_cmp_le, lg_cmp_gt, lg_cmp_ge, lg_cmp_eq] at t_15_17
                      try simp only [Int32.lt_iff_toInt_lt, Int32.le_iff_toInt_le, ← Int32.toInt_inj, Int64.lt_iff_toInt_lt, Int64.le_iff_toInt_le, ← Int64.toInt_inj, Int32.toInt_toInt64, Int32.reduceToInt, Int64.reduceToInt] at t_15_17
                      refine lv_aload_n hx hb dX2_addNumber_18 rfl (lv_at hl 1 rfl) ?_
                      refine lv_bipush (v := 48) hx hb dX2_addNumber_19 (by decide) ?_
                      refine lv_iload_n hx hb dX2_addNumber_21 rfl (lv_at hl 2 rfl) ?_
                      refine lv_iload_n hx hb dX2_addNumber_22 rfl (lv_at hl 0 rfl) ?_
                      refine lv_idiv hx hb dX2_addNumber_23 (by decide) ?_
                      refine lv_bipush (v := 10) hx hb dX2_addNumber_24 (by decide) ?_
                      refine lv_irem hx hb dX2_addNumber_26 (by decide) ?_
                      refine lv_iadd hx hb dX2_addNumber_27 ?_
                      refine lv_i2c hx hb dX2_addNumber_28 rfl ?_
                      refine kCallVd (wr := []) (va_runV (As := [.int ((48 + ((n / 1) - (n / 1) / 10 * 10)).toUInt32 % 65536).toInt32]) (rest := []) ⟨hx, hb, hml, hown, hts⟩ (c_addByte_2 l D cI cL cB cZ cT _ aW bW (upd (upd fw (0 : Int32).toNatClampNeg (vp_nar .byte (((48 + ((n / 100) - (n / 100) / 10 * 10)).toUInt32 % 65536).toInt32).toInt8.toInt32)) (1 : Int32).toNatClampNeg (vp_nar .byte (((48 + ((n / 10) - (n / 10) / 10 * 10)).toUInt32 % 65536).toInt32).toInt8.toInt32)) ((48 + ((n / 1) - (n / 1) / 10 * 10)).toUInt32 % 65536).toInt32) (cwV 1 hts gX2_addNumber_X2_addByte rfl rfl rfl (by decide +kernel) ⟨Nat.le_of_ble_eq_true rfl, Nat.le_of_ble_eq_true rfl⟩) (kPreV hG hP hD [0, 1] rfl (by decide) 0 2 rfl rfl rfl) rfl rfl hl.1 rfl (lv_room (Nat.le_of_ble_eq_true rfl)) dX2_addNumber_29 ⟨Nat.le_of_ble_eq_true rfl, Nat.le_of_ble_eq_true rfl⟩) hA hP hD hS [0, 1] [] rfl rfl (by decide) (by decide) (fun _ u_r_19 H locs wr_19 hP hD hS => ?_)
                      have hP : va_P D vwCl [(aW, .inr (2, [.ref bW, .int 3])), (bW, .inl (cB, 11, .inl (upd (upd (upd fw (0 : Int32).toNatClampNeg (vp_nar .byte (((48 + ((n / 100) - (n / 100) / 10 * 10)).toUInt32 % 65536).toInt32).toInt8.toInt32)) (1 : Int32).toNatClampNeg (vp_nar .byte (((48 + ((n / 10) - (n / 10) / 10 * 10)).toUInt32 % 65536).toInt32).toInt8.toInt32)) (2 : Int32).toNatClampNeg (vp_nar .byte (((48 + ((n / 1) - (n / 1) / 10 * 10)).toUInt32 % 65536).toInt32).toInt8.toInt32))))] H := hP
                      have hD : va_D A [(aW, .inr (2, [.ref bW, .int 3])), (bW, .inl (cB, 11, .inl (upd (upd (upd fw (0 : Int32).toNatClampNeg (vp_nar .byte (((48 + ((n / 100) - (n / 100) / 10 * 10)).toUInt32 % 65536).toInt32).toInt8.toInt32)) (1 : Int32).toNatClampNeg (vp_nar .byte (((48 + ((n / 10) - (n / 10) / 10 * 10)).toUInt32 % 65536).toInt32).toInt8.toInt32)) (2 : Int32).toNatClampNeg (vp_nar .byte (((48 + ((n / 1) - (n / 1) / 10 * 10)).toUInt32 % 65536).toInt32).toInt8.toInt32))))] := hD
                      try dsimp only at wr_19
                      refine lv_iload_n hx hb dX2_addNumber_32 rfl (lv_at hl 0 rfl) ?_
                      refine lv_bipush (v := 10) hx hb dX2_addNumber_33 (by decide) ?_
                      refine lv_idiv hx hb dX2_addNumber_35 (by decide) ?_
                      refine lv_topi (fun x_20 ex_20 => ?_)
                      obtain rfl : x_20 = 0 := ex_20.trans (by decide)
                      refine lv_istore_n (lv' := [(2, .int 0), (0, .ref aW), (1, .int n)]) hx hb dX2_addNumber_36 rfl hl (by decide) rfl (fun ls hl => ?_)
                      refine lv_goto (tgt := 4) hx hb dX2_addNumber_37 (by decide) ?_
                      refine lv_iload_n hx hb dX2_addNumber_4 rfl (lv_at hl 0 rfl) ?_
                      refine lv_if_le (tgt := 40) hx hb dX2_addNumber_5 (by decide) (fun c_5_20 => ?_) (fun c_5_20 => ?_)
                      · have t_5_20 := c_5_20
                        try simp only [kb_eq0, kb_ne0, lg_cmp_lt, lg_cmp_le, lg_cmp_gt, lg_cmp_ge, lg_cmp_eq] at t_5_20
                        try simp only [Int32.lt_iff_toInt_lt, Int32.le_iff_toInt_le, ← Int32.toInt_inj, Int64.lt_iff_toInt_lt, Int64.le_iff_toInt_le, ← Int64.toInt_inj, Int32.toInt_toInt64, Int32.reduceToInt, Int64.reduceToInt] at t_5_20
                        refine kVret (u := ()) hx hb hr hlocks hS dX2_addNumber_40 ?_ (hP.sub [0, 1] rfl) (hD.sub [0, 1] (by decide) rfl)
                        exact trivial
                      · exact absurd (by decide) c_5_20
              · have t_10_9 := c_10_9
                try simp only [kb_eq0, kb_ne0, lg_cmp_lt, lg_cmp_le, lg_cmp_gt, lg_cmp_ge, lg_cmp_eq] at t_10_9
                try simp only [Int32.lt_iff_toInt_lt, Int32.le_iff_toInt_le, ← Int32.toInt_inj, Int64.lt_iff_toInt_lt, Int64.le_iff_toInt_le, ← Int64.toInt_inj, Int32.toInt_toInt64, Int32.reduceToInt, Int64.reduceToInt] at t_10_9
                omega
          · have t_10_5 := c_10_5
            try simp only [kb_eq0, kb_ne0, lg_cmp_lt, lg_cmp_le, lg_cmp_gt, lg_cmp_ge, lg_cmp_eq] at t_10_5
            try simp only [Int32.lt_iff_toInt_lt, Int32.le_iff_toInt_le, ← Int32.toInt_inj, Int64.lt_iff_toInt_lt, Int64.le_iff_toInt_le, ← Int64.toInt_inj, Int32.toInt_toInt64, Int32.reduceToInt, Int64.reduceToInt] at t_10_5
            omega
      · exact absurd c_15_2 (by decide)
set_option maxRecDepth 100000 in
set_option maxHeartbeats 4000000 in
theorem c_addZ_2 (l : Launch) (D : va_G) (cI cL cB cZ cT : ClassId) (sz : Nat) (aW bW : Nat) (fw : Nat → Int32) : kM (S := Unit) l yX2_addNumber wsX2_addNumber ({ frames := 1, cells := 0, slots := 0, locals := 21 }) D (kT cI cL cB cZ cT) [.ref aW, .int 0] [(aW, .inr (2, [.ref bW, .int 2])), (bW, .inl (cB, 11, .inl fw))] sz eV (fun _ _ => True) (fun _ => [(aW, .inr (2, [.ref bW, .int 3])), (bW, .inl (cB, 11, .inl (upd fw (2 : Int32).toNatClampNeg (vp_nar .byte (48 : Int32).toInt8.toInt32))))]) 0 0 := by
  refine kStart (cc := cX2_addNumber) (maxL := 3) (ret := none) (own := RX2) (by decide) rfl rfl (Nat.le_of_ble_eq_true rfl) ?_
  intro p e s m args below meth c A ls hx hb hr hml hown hts hlocks hnm hsz hA hG hP hD hS hl
  have hK := hG.1
  have hl : lv_has ls 3 [(0, .ref aW), (1, .int 0)] := hl
  refine lv_sipush (v := 1000) hx hb dX2_addNumber_0 (by decide) ?_
  refine lv_istore_n (lv' := [(2, .int 1000), (0, .ref aW), (1, .int 0)]) hx hb dX2_addNumber_3 rfl hl (by decide) rfl (fun ls hl => ?_)
  refine lv_iload_n hx hb dX2_addNumber_4 rfl (lv_at hl 0 rfl) ?_
  refine lv_if_le (tgt := 40) hx hb dX2_addNumber_5 (by decide) (fun c_5_0 => ?_) (fun c_5_0 => ?_)
  · exact absurd c_5_0 (by decide)
  · have t_5_0 := c_5_0
    try simp only [kb_eq0, kb_ne0, lg_cmp_lt, lg_cmp_le, lg_cmp_gt, lg_cmp_ge, lg_cmp_eq] at t_5_0
    try simp only [Int32.lt_iff_toInt_lt, Int32.le_iff_toInt_le, ← Int32.toInt_inj, Int64.lt_iff_toInt_lt, Int64.le_iff_toInt_le, ← Int64.toInt_inj, Int32.toInt_toInt64, Int32.reduceToInt, Int64.reduceToInt] at t_5_0
    refine lv_iload_n hx hb dX2_addNumber_8 rfl (lv_at hl 2 rfl) ?_
    refine lv_iload_n hx hb dX2_addNumber_9 rfl (lv_at hl 0 rfl) ?_
    refine lv_icmp_ge (tgt := 18) hx hb dX2_addNumber_10 (by decide) (fun c_10_1 => ?_) (fun c_10_1 => ?_)
    · exact absurd c_10_1 (by decide)
    · have t_10_1 := c_10_1
      try simp only [kb_eq0, kb_ne0, lg_cmp_lt, lg_cmp_le, lg_cmp_gt, lg_cmp_ge, lg_cmp_eq] at t_10_1
      try simp only [Int32.lt_iff_toInt_lt, Int32.le_iff_toInt_le, ← Int32.toInt_inj, Int64.lt_iff_toInt_lt, Int64.le_iff_toInt_le, ← Int64.toInt_inj, Int32.toInt_toInt64, Int32.reduceToInt, Int64.reduceToInt] at t_10_1
      refine lv_iload_n hx hb dX2_addNumber_13 rfl (lv_at hl 0 rfl) ?_
      refine lv_iconst (v := 1) hx hb dX2_addNumber_14 (by decide) ?_
      refine lv_icmp_ne (tgt := 32) hx hb dX2_addNumber_15 (by decide) (fun c_15_2 => ?_) (fun c_15_2 => ?_)
      · have t_15_2 := c_15_2
        try simp only [kb_eq0, kb_ne0, lg_cmp_lt, lg_cmp_le, lg_cmp_gt, lg_cmp_ge, lg_cmp_eq] at t_15_2
        try simp only [Int32.lt_iff_toInt_lt, Int32.le_iff_toInt_le, ← Int32.toInt_inj, Int64.lt_iff_toInt_lt, Int64.le_iff_toInt_le, ← Int64.toInt_inj, Int32.toInt_toInt64, Int32.reduceToInt, Int64.reduceToInt] at t_15_2
        refine lv_iload_n hx hb dX2_addNumber_32 rfl (lv_at hl 0 rfl) ?_
        refine lv_bipush (v := 10) hx hb dX2_addNumber_33 (by decide) ?_
        refine lv_idiv hx hb dX2_addNumber_35 (by decide) ?_
        refine lv_topi (fun x_4 ex_4 => ?_)
        obtain rfl : x_4 = 100 := ex_4.trans (by decide)
        refine lv_istore_n (lv' := [(2, .int 100), (0, .ref aW), (1, .int 0)]) hx hb dX2_addNumber_36 rfl hl (by decide) rfl (fun ls hl => ?_)
        refine lv_goto (tgt := 4) hx hb dX2_addNumber_37 (by decide) ?_
        refine lv_iload_n hx hb dX2_addNumber_4 rfl (lv_at hl 0 rfl) ?_
        refine lv_if_le (tgt := 40) hx hb dX2_addNumber_5 (by decide) (fun c_5_4 => ?_) (fun c_5_4 => ?_)
        · exact absurd c_5_4 (by decide)
        · have t_5_4 := c_5_4
          try simp only [kb_eq0, kb_ne0, lg_cmp_lt, lg_cmp_le, lg_cmp_gt, lg_cmp_ge, lg_cmp_eq] at t_5_4
          try simp only [Int32.lt_iff_toInt_lt, Int32.le_iff_toInt_le, ← Int32.toInt_inj, Int64.lt_iff_toInt_lt, Int64.le_iff_toInt_le, ← Int64.toInt_inj, Int32.toInt_toInt64, Int32.reduceToInt, Int64.reduceToInt] at t_5_4
          refine lv_iload_n hx hb dX2_addNumber_8 rfl (lv_at hl 2 rfl) ?_
          refine lv_iload_n hx hb dX2_addNumber_9 rfl (lv_at hl 0 rfl) ?_
          refine lv_icmp_ge (tgt := 18) hx hb dX2_addNumber_10 (by decide) (fun c_10_5 => ?_) (fun c_10_5 => ?_)
          · exact absurd c_10_5 (by decide)
          · have t_10_5 := c_10_5
            try simp only [kb_eq0, kb_ne0, lg_cmp_lt, lg_cmp_le, lg_cmp_gt, lg_cmp_ge, lg_cmp_eq] at t_10_5
            try simp only [Int32.lt_iff_toInt_lt, Int32.le_iff_toInt_le, ← Int32.toInt_inj, Int64.lt_iff_toInt_lt, Int64.le_iff_toInt_le, ← Int64.toInt_inj, Int32.toInt_toInt64, Int32.reduceToInt, Int64.reduceToInt] at t_10_5
            refine lv_iload_n hx hb dX2_addNumber_13 rfl (lv_at hl 0 rfl) ?_
            refine lv_iconst (v := 1) hx hb dX2_addNumber_14 (by decide) ?_
            refine lv_icmp_ne (tgt := 32) hx hb dX2_addNumber_15 (by decide) (fun c_15_6 => ?_) (fun c_15_6 => ?_)
            · have t_15_6 := c_15_6
              try simp only [kb_eq0, kb_ne0, lg_cmp_lt, lg_cmp_le, lg_cmp_gt, lg_cmp_ge, lg_cmp_eq] at t_15_6
              try simp only [Int32.lt_iff_toInt_lt, Int32.le_iff_toInt_le, ← Int32.toInt_inj, Int64.lt_iff_toInt_lt, Int64.le_iff_toInt_le, ← Int64.toInt_inj, Int32.toInt_toInt64, Int32.reduceToInt, Int64.reduceToInt] at t_15_6
              refine lv_iload_n hx hb dX2_addNumber_32 rfl (lv_at hl 0 rfl) ?_
              refine lv_bipush (v := 10) hx hb dX2_addNumber_33 (by decide) ?_
              refine lv_idiv hx hb dX2_addNumber_35 (by decide) ?_
              refine lv_topi (fun x_8 ex_8 => ?_)
              obtain rfl : x_8 = 10 := ex_8.trans (by decide)
              refine lv_istore_n (lv' := [(2, .int 10), (0, .ref aW), (1, .int 0)]) hx hb dX2_addNumber_36 rfl hl (by decide) rfl (fun ls hl => ?_)
              refine lv_goto (tgt := 4) hx hb dX2_addNumber_37 (by decide) ?_
              refine lv_iload_n hx hb dX2_addNumber_4 rfl (lv_at hl 0 rfl) ?_
              refine lv_if_le (tgt := 40) hx hb dX2_addNumber_5 (by decide) (fun c_5_8 => ?_) (fun c_5_8 => ?_)
              · exact absurd c_5_8 (by decide)
              · have t_5_8 := c_5_8
                try simp only [kb_eq0, kb_ne0, lg_cmp_lt, lg_cmp_le, lg_cmp_gt, lg_cmp_ge, lg_cmp_eq] at t_5_8
                try simp only [Int32.lt_iff_toInt_lt, Int32.le_iff_toInt_le, ← Int32.toInt_inj, Int64.lt_iff_toInt_lt, Int64.le_iff_toInt_le, ← Int64.toInt_inj, Int32.toInt_toInt64, Int32.reduceToInt, Int64.reduceToInt] at t_5_8
                refine lv_iload_n hx hb dX2_addNumber_8 rfl (lv_at hl 2 rfl) ?_
                refine lv_iload_n hx hb dX2_addNumber_9 rfl (lv_at hl 0 rfl) ?_
                refine lv_icmp_ge (tgt := 18) hx hb dX2_addNumber_10 (by decide) (fun c_10_9 => ?_) (fun c_10_9 => ?_)
                · exact absurd c_10_9 (by decide)
                · have t_10_9 := c_10_9
                  try simp only [kb_eq0, kb_ne0, lg_cmp_lt, lg_cmp_le, lg_cmp_gt, lg_cmp_ge, lg_cmp_eq] at t_10_9
                  try simp only [Int32.lt_iff_toInt_lt, Int32.le_iff_toInt_le, ← Int32.toInt_inj, Int64.lt_iff_toInt_lt, Int64.le_iff_toInt_le, ← Int64.toInt_inj, Int32.toInt_toInt64, Int32.reduceToInt, Int64.reduceToInt] at t_10_9
                  refine lv_iload_n hx hb dX2_addNumber_13 rfl (lv_at hl 0 rfl) ?_
                  refine lv_iconst (v := 1) hx hb dX2_addNumber_14 (by decide) ?_
                  refine lv_icmp_ne (tgt := 32) hx hb dX2_addNumber_15 (by decide) (fun c_15_10 => ?_) (fun c_15_10 => ?_)
                  · have t_15_10 := c_15_10
                    try simp only [kb_eq0, kb_ne0, lg_cmp_lt, lg_cmp_le, lg_cmp_gt, lg_cmp_ge, lg_cmp_eq] at t_15_10
                    try simp only [Int32.lt_iff_toInt_lt, Int32.le_iff_toInt_le, ← Int32.toInt_inj, Int64.lt_iff_toInt_lt, Int64.le_iff_toInt_le, ← Int64.toInt_inj, Int32.toInt_toInt64, Int32.reduceToInt, Int64.reduceToInt] at t_15_10
                    refine lv_iload_n hx hb dX2_addNumber_32 rfl (lv_at hl 0 rfl) ?_
                    refine lv_bipush (v := 10) hx hb dX2_addNumber_33 (by decide) ?_
                    refine lv_idiv hx hb dX2_addNumber_35 (by decide) ?_
                    refine lv_topi (fun x_12 ex_12 => ?_)
                    obtain rfl : x_12 = 1 := ex_12.trans (by decide)
                    refine lv_istore_n (lv' := [(2, .int 1), (0, .ref aW), (1, .int 0)]) hx hb dX2_addNumber_36 rfl hl (by decide) rfl (fun ls hl => ?_)
                    refine lv_goto (tgt := 4) hx hb dX2_addNumber_37 (by decide) ?_
                    refine lv_iload_n hx hb dX2_addNumber_4 rfl (lv_at hl 0 rfl) ?_
                    refine lv_if_le (tgt := 40) hx hb dX2_addNumber_5 (by decide) (fun c_5_12 => ?_) (fun c_5_12 => ?_)
                    · exact absurd c_5_12 (by decide)
                    · have t_5_12 := c_5_12
                      try simp only [kb_eq0, kb_ne0, lg_cmp_lt, lg_cmp_le, lg_cmp_gt, lg_cmp_ge, lg_cmp_eq] at t_5_12
                      try simp only [Int32.lt_iff_toInt_lt, Int32.le_iff_toInt_le, ← Int32.toInt_inj, Int64.lt_iff_toInt_lt, Int64.le_iff_toInt_le, ← Int64.toInt_inj, Int32.toInt_toInt64, Int32.reduceToInt, Int64.reduceToInt] at t_5_12
                      refine lv_iload_n hx hb dX2_addNumber_8 rfl (lv_at hl 2 rfl) ?_
                      refine lv_iload_n hx hb dX2_addNumber_9 rfl (lv_at hl 0 rfl) ?_
                      refine lv_icmp_ge (tgt := 18) hx hb dX2_addNumber_10 (by decide) (fun c_10_13 => ?_) (fun c_10_13 => ?_)
                      · exact absurd c_10_13 (by decide)
                      · have t_10_13 := c_10_13
                        try simp only [kb_eq0, kb_ne0, lg_cmp_lt, lg_cmp_le, lg_cmp_gt, lg_cmp_ge, lg_cmp_eq] at t_10_13
                        try simp only [Int32.lt_iff_toInt_lt, Int32.le_iff_toInt_le, ← Int32.toInt_inj, Int64.lt_iff_toInt_lt, Int64.le_iff_toInt_le, ← Int64.toInt_inj, Int32.toInt_toInt64, Int32.reduceToInt, Int64.reduceToInt] at t_10_13
                        refine lv_iload_n hx hb dX2_addNumber_13 rfl (lv_at hl 0 rfl) ?_
                        refine lv_iconst (v := 1) hx hb dX2_addNumber_14 (by decide) ?_
                        refine lv_icmp_ne (tgt := 32) hx hb dX2_addNumber_15 (by decide) (fun c_15_14 => ?_) (fun c_15_14 => ?_)
                        · exact absurd (by decide) c_15_14
                        · have t_15_14 := c_15_14
                          try simp only [kb_eq0, kb_ne0, lg_cmp_lt, lg_cmp_le, lg_cmp_gt, lg_cmp_ge, lg_cmp_eq] at t_15_14
                          try simp only [Int32.lt_iff_toInt_lt, Int32.le_iff_toInt_le, ← Int32.toInt_inj, Int64.lt_iff_toInt_lt, Int64.le_iff_toInt_le, ← Int64.toInt_inj, Int32.toInt_toInt64, Int32.reduceToInt, Int64.reduceToInt] at t_15_14
                          refine lv_aload_n hx hb dX2_addNumber_18 rfl (lv_at hl 1 rfl) ?_
                          refine lv_bipush (v := 48) hx hb dX2_addNumber_19 (by decide) ?_
                          refine lv_iload_n hx hb dX2_addNumber_21 rfl (lv_at hl 2 rfl) ?_
                          refine lv_iload_n hx hb dX2_addNumber_22 rfl (lv_at hl 0 rfl) ?_
                          refine lv_idiv hx hb dX2_addNumber_23 (by decide) ?_
                          refine lv_topi (fun x_16 ex_16 => ?_)
                          obtain rfl : x_16 = 0 := ex_16.trans (by decide)
                          refine lv_bipush (v := 10) hx hb dX2_addNumber_24 (by decide) ?_
                          refine lv_irem hx hb dX2_addNumber_26 (by decide) ?_
                          refine lv_topi (fun x_17 ex_17 => ?_)
                          obtain rfl : x_17 = 0 := ex_17.trans (by decide)
                          refine lv_iadd hx hb dX2_addNumber_27 ?_
                          refine lv_topi (fun x_18 ex_18 => ?_)
                          obtain rfl : x_18 = 48 := ex_18.trans (by decide)
                          refine lv_i2c hx hb dX2_addNumber_28 rfl ?_
                          refine lv_topi (fun x_19 ex_19 => ?_)
                          obtain rfl : x_19 = 48 := ex_19.trans (by decide)
                          refine kCallVd (wr := []) (va_runV (As := [.int 48]) (rest := []) ⟨hx, hb, hml, hown, hts⟩ (c_addByte_2 l D cI cL cB cZ cT _ aW bW fw 48) (cwV 1 hts gX2_addNumber_X2_addByte rfl rfl rfl (by decide +kernel) ⟨Nat.le_of_ble_eq_true rfl, Nat.le_of_ble_eq_true rfl⟩) (kPreV hG hP hD [0, 1] rfl (by decide) 0 2 rfl rfl rfl) rfl rfl hl.1 rfl (lv_room (Nat.le_of_ble_eq_true rfl)) dX2_addNumber_29 ⟨Nat.le_of_ble_eq_true rfl, Nat.le_of_ble_eq_true rfl⟩) hA hP hD hS [0, 1] [] rfl rfl (by decide) (by decide) (fun _ u_r_20 H locs wr_20 hP hD hS => ?_)
                          have hP : va_P D vwCl [(aW, .inr (2, [.ref bW, .int 3])), (bW, .inl (cB, 11, .inl (upd fw (2 : Int32).toNatClampNeg (vp_nar .byte (48 : Int32).toInt8.toInt32))))] H := hP
                          have hD : va_D A [(aW, .inr (2, [.ref bW, .int 3])), (bW, .inl (cB, 11, .inl (upd fw (2 : Int32).toNatClampNeg (vp_nar .byte (48 : Int32).toInt8.toInt32))))] := hD
                          try dsimp only at wr_20
                          refine lv_iload_n hx hb dX2_addNumber_32 rfl (lv_at hl 0 rfl) ?_
                          refine lv_bipush (v := 10) hx hb dX2_addNumber_33 (by decide) ?_
                          refine lv_idiv hx hb dX2_addNumber_35 (by decide) ?_
                          refine lv_topi (fun x_21 ex_21 => ?_)
                          obtain rfl : x_21 = 0 := ex_21.trans (by decide)
                          refine lv_istore_n (lv' := [(2, .int 0), (0, .ref aW), (1, .int 0)]) hx hb dX2_addNumber_36 rfl hl (by decide) rfl (fun ls hl => ?_)
                          refine lv_goto (tgt := 4) hx hb dX2_addNumber_37 (by decide) ?_
                          refine lv_iload_n hx hb dX2_addNumber_4 rfl (lv_at hl 0 rfl) ?_
                          refine lv_if_le (tgt := 40) hx hb dX2_addNumber_5 (by decide) (fun c_5_21 => ?_) (fun c_5_21 => ?_)
                          · have t_5_21 := c_5_21
                            try simp only [kb_eq0, kb_ne0, lg_cmp_lt, lg_cmp_le, lg_cmp_gt, lg_cmp_ge, lg_cmp_eq] at t_5_21
                            try simp only [Int32.lt_iff_toInt_lt, Int32.le_iff_toInt_le, ← Int32.toInt_inj, Int64.lt_iff_toInt_lt, Int64.le_iff_toInt_le, ← Int64.toInt_inj, Int32.toInt_toInt64, Int32.reduceToInt, Int64.reduceToInt] at t_5_21
                            refine kVret (u := ()) hx hb hr hlocks hS dX2_addNumber_40 ?_ (hP.sub [0, 1] rfl) (hD.sub [0, 1] (by decide) rfl)
                            exact trivial
                          · exact absurd (by decide) c_5_21
                  · exact absurd c_15_10 (by decide)
            · exact absurd c_15_6 (by decide)
      · exact absurd c_15_2 (by decide)
set_option maxRecDepth 100000 in
set_option maxHeartbeats 4000000 in
theorem c_addZ_3 (l : Launch) (D : va_G) (cI cL cB cZ cT : ClassId) (sz : Nat) (aW bW : Nat) (fw : Nat → Int32) : kM (S := Unit) l yX2_addNumber wsX2_addNumber ({ frames := 1, cells := 0, slots := 0, locals := 21 }) D (kT cI cL cB cZ cT) [.ref aW, .int 0] [(aW, .inr (2, [.ref bW, .int 3])), (bW, .inl (cB, 11, .inl fw))] sz eV (fun _ _ => True) (fun _ => [(aW, .inr (2, [.ref bW, .int 4])), (bW, .inl (cB, 11, .inl (upd fw (3 : Int32).toNatClampNeg (vp_nar .byte (48 : Int32).toInt8.toInt32))))]) 0 0 := by
  refine kStart (cc := cX2_addNumber) (maxL := 3) (ret := none) (own := RX2) (by decide) rfl rfl (Nat.le_of_ble_eq_true rfl) ?_
  intro p e s m args below meth c A ls hx hb hr hml hown hts hlocks hnm hsz hA hG hP hD hS hl
  have hK := hG.1
  have hl : lv_has ls 3 [(0, .ref aW), (1, .int 0)] := hl
  refine lv_sipush (v := 1000) hx hb dX2_addNumber_0 (by decide) ?_
  refine lv_istore_n (lv' := [(2, .int 1000), (0, .ref aW), (1, .int 0)]) hx hb dX2_addNumber_3 rfl hl (by decide) rfl (fun ls hl => ?_)
  refine lv_iload_n hx hb dX2_addNumber_4 rfl (lv_at hl 0 rfl) ?_
  refine lv_if_le (tgt := 40) hx hb dX2_addNumber_5 (by decide) (fun c_5_0 => ?_) (fun c_5_0 => ?_)
  · exact absurd c_5_0 (by decide)
  · have t_5_0 := c_5_0
    try simp only [kb_eq0, kb_ne0, lg_cmp_lt, lg_cmp_le, lg_cmp_gt, lg_cmp_ge, lg_cmp_eq] at t_5_0
    try simp only [Int32.lt_iff_toInt_lt, Int32.le_iff_toInt_le, ← Int32.toInt_inj, Int64.lt_iff_toInt_lt, Int64.le_iff_toInt_le, ← Int64.toInt_inj, Int32.toInt_toInt64, Int32.reduceToInt, Int64.reduceToInt] at t_5_0
    refine lv_iload_n hx hb dX2_addNumber_8 rfl (lv_at hl 2 rfl) ?_
    refine lv_iload_n hx hb dX2_addNumber_9 rfl (lv_at hl 0 rfl) ?_
    refine lv_icmp_ge (tgt := 18) hx hb dX2_addNumber_10 (by decide) (fun c_10_1 => ?_) (fun c_10_1 => ?_)
    · exact absurd c_10_1 (by decide)
    · have t_10_1 := c_10_1
      try simp only [kb_eq0, kb_ne0, lg_cmp_lt, lg_cmp_le, lg_cmp_gt, lg_cmp_ge, lg_cmp_eq] at t_10_1
      try simp only [Int32.lt_iff_toInt_lt, Int32.le_iff_toInt_le, ← Int32.toInt_inj, Int64.lt_iff_toInt_lt, Int64.le_iff_toInt_le, ← Int64.toInt_inj, Int32.toInt_toInt64, Int32.reduceToInt, Int64.reduceToInt] at t_10_1
      refine lv_iload_n hx hb dX2_addNumber_13 rfl (lv_at hl 0 rfl) ?_
      refine lv_iconst (v := 1) hx hb dX2_addNumber_14 (by decide) ?_
      refine lv_icmp_ne (tgt := 32) hx hb dX2_addNumber_15 (by decide) (fun c_15_2 => ?_) (fun c_15_2 => ?_)
      · have t_15_2 := c_15_2
        try simp only [kb_eq0, kb_ne0, lg_cmp_lt, lg_cmp_le, lg_cmp_gt, lg_cmp_ge, lg_cmp_eq] at t_15_2
        try simp only [Int32.lt_iff_toInt_lt, Int32.le_iff_toInt_le, ← Int32.toInt_inj, Int64.lt_iff_toInt_lt, Int64.le_iff_toInt_le, ← Int64.toInt_inj, Int32.toInt_toInt64, Int32.reduceToInt, Int64.reduceToInt] at t_15_2
        refine lv_iload_n hx hb dX2_addNumber_32 rfl (lv_at hl 0 rfl) ?_
        refine lv_bipush (v := 10) hx hb dX2_addNumber_33 (by decide) ?_
        refine lv_idiv hx hb dX2_addNumber_35 (by decide) ?_
        refine lv_topi (fun x_4 ex_4 => ?_)
        obtain rfl : x_4 = 100 := ex_4.trans (by decide)
        refine lv_istore_n (lv' := [(2, .int 100), (0, .ref aW), (1, .int 0)]) hx hb dX2_addNumber_36 rfl hl (by decide) rfl (fun ls hl => ?_)
        refine lv_goto (tgt := 4) hx hb dX2_addNumber_37 (by decide) ?_
        refine lv_iload_n hx hb dX2_addNumber_4 rfl (lv_at hl 0 rfl) ?_
        refine lv_if_le (tgt := 40) hx hb dX2_addNumber_5 (by decide) (fun c_5_4 => ?_) (fun c_5_4 => ?_)
        · exact absurd c_5_4 (by decide)
        · have t_5_4 := c_5_4
          try simp only [kb_eq0, kb_ne0, lg_cmp_lt, lg_cmp_le, lg_cmp_gt, lg_cmp_ge, lg_cmp_eq] at t_5_4
          try simp only [Int32.lt_iff_toInt_lt, Int32.le_iff_toInt_le, ← Int32.toInt_inj, Int64.lt_iff_toInt_lt, Int64.le_iff_toInt_le, ← Int64.toInt_inj, Int32.toInt_toInt64, Int32.reduceToInt, Int64.reduceToInt] at t_5_4
          refine lv_iload_n hx hb dX2_addNumber_8 rfl (lv_at hl 2 rfl) ?_
          refine lv_iload_n hx hb dX2_addNumber_9 rfl (lv_at hl 0 rfl) ?_
          refine lv_icmp_ge (tgt := 18) hx hb dX2_addNumber_10 (by decide) (fun c_10_5 => ?_) (fun c_10_5 => ?_)
          · exact absurd c_10_5 (by decide)
          · have t_10_5 := c_10_5
            try simp only [kb_eq0, kb_ne0, lg_cmp_lt, lg_cmp_le, lg_cmp_gt, lg_cmp_ge, lg_cmp_eq] at t_10_5
            try simp only [Int32.lt_iff_toInt_lt, Int32.le_iff_toInt_le, ← Int32.toInt_inj, Int64.lt_iff_toInt_lt, Int64.le_iff_toInt_le, ← Int64.toInt_inj, Int32.toInt_toInt64, Int32.reduceToInt, Int64.reduceToInt] at t_10_5
            refine lv_iload_n hx hb dX2_addNumber_13 rfl (lv_at hl 0 rfl) ?_
            refine lv_iconst (v := 1) hx hb dX2_addNumber_14 (by decide) ?_
            refine lv_icmp_ne (tgt := 32) hx hb dX2_addNumber_15 (by decide) (fun c_15_6 => ?_) (fun c_15_6 => ?_)
            · have t_15_6 := c_15_6
              try simp only [kb_eq0, kb_ne0, lg_cmp_lt, lg_cmp_le, lg_cmp_gt, lg_cmp_ge, lg_cmp_eq] at t_15_6
              try simp only [Int32.lt_iff_toInt_lt, Int32.le_iff_toInt_le, ← Int32.toInt_inj, Int64.lt_iff_toInt_lt, Int64.le_iff_toInt_le, ← Int64.toInt_inj, Int32.toInt_toInt64, Int32.reduceToInt, Int64.reduceToInt] at t_15_6
              refine lv_iload_n hx hb dX2_addNumber_32 rfl (lv_at hl 0 rfl) ?_
              refine lv_bipush (v := 10) hx hb dX2_addNumber_33 (by decide) ?_
              refine lv_idiv hx hb dX2_addNumber_35 (by decide) ?_
              refine lv_topi (fun x_8 ex_8 => ?_)
              obtain rfl : x_8 = 10 := ex_8.trans (by decide)
              refine lv_istore_n (lv' := [(2, .int 10), (0, .ref aW), (1, .int 0)]) hx hb dX2_addNumber_36 rfl hl (by decide) rfl (fun ls hl => ?_)
              refine lv_goto (tgt := 4) hx hb dX2_addNumber_37 (by decide) ?_
              refine lv_iload_n hx hb dX2_addNumber_4 rfl (lv_at hl 0 rfl) ?_
              refine lv_if_le (tgt := 40) hx hb dX2_addNumber_5 (by decide) (fun c_5_8 => ?_) (fun c_5_8 => ?_)
              · exact absurd c_5_8 (by decide)
              · have t_5_8 := c_5_8
                try simp only [kb_eq0, kb_ne0, lg_cmp_lt, lg_cmp_le, lg_cmp_gt, lg_cmp_ge, lg_cmp_eq] at t_5_8
                try simp only [Int32.lt_iff_toInt_lt, Int32.le_iff_toInt_le, ← Int32.toInt_inj, Int64.lt_iff_toInt_lt, Int64.le_iff_toInt_le, ← Int64.toInt_inj, Int32.toInt_toInt64, Int32.reduceToInt, Int64.reduceToInt] at t_5_8
                refine lv_iload_n hx hb dX2_addNumber_8 rfl (lv_at hl 2 rfl) ?_
                refine lv_iload_n hx hb dX2_addNumber_9 rfl (lv_at hl 0 rfl) ?_
                refine lv_icmp_ge (tgt := 18) hx hb dX2_addNumber_10 (by decide) (fun c_10_9 => ?_) (fun c_10_9 => ?_)
                · exact absurd c_10_9 (by decide)
                · have t_10_9 := c_10_9
                  try simp only [kb_eq0, kb_ne0, lg_cmp_lt, lg_cmp_le, lg_cmp_gt, lg_cmp_ge, lg_cmp_eq] at t_10_9
                  try simp only [Int32.lt_iff_toInt_lt, Int32.le_iff_toInt_le, ← Int32.toInt_inj, Int64.lt_iff_toInt_lt, Int64.le_iff_toInt_le, ← Int64.toInt_inj, Int32.toInt_toInt64, Int32.reduceToInt, Int64.reduceToInt] at t_10_9
                  refine lv_iload_n hx hb dX2_addNumber_13 rfl (lv_at hl 0 rfl) ?_
                  refine lv_iconst (v := 1) hx hb dX2_addNumber_14 (by decide) ?_
                  refine lv_icmp_ne (tgt := 32) hx hb dX2_addNumber_15 (by decide) (fun c_15_10 => ?_) (fun c_15_10 => ?_)
                  · have t_15_10 := c_15_10
                    try simp only [kb_eq0, kb_ne0, lg_cmp_lt, lg_cmp_le, lg_cmp_gt, lg_cmp_ge, lg_cmp_eq] at t_15_10
                    try simp only [Int32.lt_iff_toInt_lt, Int32.le_iff_toInt_le, ← Int32.toInt_inj, Int64.lt_iff_toInt_lt, Int64.le_iff_toInt_le, ← Int64.toInt_inj, Int32.toInt_toInt64, Int32.reduceToInt, Int64.reduceToInt] at t_15_10
                    refine lv_iload_n hx hb dX2_addNumber_32 rfl (lv_at hl 0 rfl) ?_
                    refine lv_bipush (v := 10) hx hb dX2_addNumber_33 (by decide) ?_
                    refine lv_idiv hx hb dX2_addNumber_35 (by decide) ?_
                    refine lv_topi (fun x_12 ex_12 => ?_)
                    obtain rfl : x_12 = 1 := ex_12.trans (by decide)
                    refine lv_istore_n (lv' := [(2, .int 1), (0, .ref aW), (1, .int 0)]) hx hb dX2_addNumber_36 rfl hl (by decide) rfl (fun ls hl => ?_)
                    refine lv_goto (tgt := 4) hx hb dX2_addNumber_37 (by decide) ?_
                    refine lv_iload_n hx hb dX2_addNumber_4 rfl (lv_at hl 0 rfl) ?_
                    refine lv_if_le (tgt := 40) hx hb dX2_addNumber_5 (by decide) (fun c_5_12 => ?_) (fun c_5_12 => ?_)
                    · exact absurd c_5_12 (by decide)
                    · have t_5_12 := c_5_12
                      try simp only [kb_eq0, kb_ne0, lg_cmp_lt, lg_cmp_le, lg_cmp_gt, lg_cmp_ge, lg_cmp_eq] at t_5_12
                      try simp only [Int32.lt_iff_toInt_lt, Int32.le_iff_toInt_le, ← Int32.toInt_inj, Int64.lt_iff_toInt_lt, Int64.le_iff_toInt_le, ← Int64.toInt_inj, Int32.toInt_toInt64, Int32.reduceToInt, Int64.reduceToInt] at t_5_12
                      refine lv_iload_n hx hb dX2_addNumber_8 rfl (lv_at hl 2 rfl) ?_
                      refine lv_iload_n hx hb dX2_addNumber_9 rfl (lv_at hl 0 rfl) ?_
                      refine lv_icmp_ge (tgt := 18) hx hb dX2_addNumber_10 (by decide) (fun c_10_13 => ?_) (fun c_10_13 => ?_)
                      · exact absurd c_10_13 (by decide)
                      · have t_10_13 := c_10_13
                        try simp only [kb_eq0, kb_ne0, lg_cmp_lt, lg_cmp_le, lg_cmp_gt, lg_cmp_ge, lg_cmp_eq] at t_10_13
                        try simp only [Int32.lt_iff_toInt_lt, Int32.le_iff_toInt_le, ← Int32.toInt_inj, Int64.lt_iff_toInt_lt, Int64.le_iff_toInt_le, ← Int64.toInt_inj, Int32.toInt_toInt64, Int32.reduceToInt, Int64.reduceToInt] at t_10_13
                        refine lv_iload_n hx hb dX2_addNumber_13 rfl (lv_at hl 0 rfl) ?_
                        refine lv_iconst (v := 1) hx hb dX2_addNumber_14 (by decide) ?_
                        refine lv_icmp_ne (tgt := 32) hx hb dX2_addNumber_15 (by decide) (fun c_15_14 => ?_) (fun c_15_14 => ?_)
                        · exact absurd (by decide) c_15_14
                        · have t_15_14 := c_15_14
                          try simp only [kb_eq0, kb_ne0, lg_cmp_lt, lg_cmp_le, lg_cmp_gt, lg_cmp_ge, lg_cmp_eq] at t_15_14
                          try simp only [Int32.lt_iff_toInt_lt, Int32.le_iff_toInt_le, ← Int32.toInt_inj, Int64.lt_iff_toInt_lt, Int64.le_iff_toInt_le, ← Int64.toInt_inj, Int32.toInt_toInt64, Int32.reduceToInt, Int64.reduceToInt] at t_15_14
                          refine lv_aload_n hx hb dX2_addNumber_18 rfl (lv_at hl 1 rfl) ?_
                          refine lv_bipush (v := 48) hx hb dX2_addNumber_19 (by decide) ?_
                          refine lv_iload_n hx hb dX2_addNumber_21 rfl (lv_at hl 2 rfl) ?_
                          refine lv_iload_n hx hb dX2_addNumber_22 rfl (lv_at hl 0 rfl) ?_
                          refine lv_idiv hx hb dX2_addNumber_23 (by decide) ?_
                          refine lv_topi (fun x_16 ex_16 => ?_)
                          obtain rfl : x_16 = 0 := ex_16.trans (by decide)
                          refine lv_bipush (v := 10) hx hb dX2_addNumber_24 (by decide) ?_
                          refine lv_irem hx hb dX2_addNumber_26 (by decide) ?_
                          refine lv_topi (fun x_17 ex_17 => ?_)
                          obtain rfl : x_17 = 0 := ex_17.trans (by decide)
                          refine lv_iadd hx hb dX2_addNumber_27 ?_
                          refine lv_topi (fun x_18 ex_18 => ?_)
                          obtain rfl : x_18 = 48 := ex_18.trans (by decide)
                          refine lv_i2c hx hb dX2_addNumber_28 rfl ?_
                          refine lv_topi (fun x_19 ex_19 => ?_)
                          obtain rfl : x_19 = 48 := ex_19.trans (by decide)
                          refine kCallVd (wr := []) (va_runV (As := [.int 48]) (rest := []) ⟨hx, hb, hml, hown, hts⟩ (c_addByte_3 l D cI cL cB cZ cT _ aW bW fw 48) (cwV 1 hts gX2_addNumber_X2_addByte rfl rfl rfl (by decide +kernel) ⟨Nat.le_of_ble_eq_true rfl, Nat.le_of_ble_eq_true rfl⟩) (kPreV hG hP hD [0, 1] rfl (by decide) 0 2 rfl rfl rfl) rfl rfl hl.1 rfl (lv_room (Nat.le_of_ble_eq_true rfl)) dX2_addNumber_29 ⟨Nat.le_of_ble_eq_true rfl, Nat.le_of_ble_eq_true rfl⟩) hA hP hD hS [0, 1] [] rfl rfl (by decide) (by decide) (fun _ u_r_20 H locs wr_20 hP hD hS => ?_)
                          have hP : va_P D vwCl [(aW, .inr (2, [.ref bW, .int 4])), (bW, .inl (cB, 11, .inl (upd fw (3 : Int32).toNatClampNeg (vp_nar .byte (48 : Int32).toInt8.toInt32))))] H := hP
                          have hD : va_D A [(aW, .inr (2, [.ref bW, .int 4])), (bW, .inl (cB, 11, .inl (upd fw (3 : Int32).toNatClampNeg (vp_nar .byte (48 : Int32).toInt8.toInt32))))] := hD
                          try dsimp only at wr_20
                          refine lv_iload_n hx hb dX2_addNumber_32 rfl (lv_at hl 0 rfl) ?_
                          refine lv_bipush (v := 10) hx hb dX2_addNumber_33 (by decide) ?_
                          refine lv_idiv hx hb dX2_addNumber_35 (by decide) ?_
                          refine lv_topi (fun x_21 ex_21 => ?_)
                          obtain rfl : x_21 = 0 := ex_21.trans (by decide)
                          refine lv_istore_n (lv' := [(2, .int 0), (0, .ref aW), (1, .int 0)]) hx hb dX2_addNumber_36 rfl hl (by decide) rfl (fun ls hl => ?_)
                          refine lv_goto (tgt := 4) hx hb dX2_addNumber_37 (by decide) ?_
                          refine lv_iload_n hx hb dX2_addNumber_4 rfl (lv_at hl 0 rfl) ?_
                          refine lv_if_le (tgt := 40) hx hb dX2_addNumber_5 (by decide) (fun c_5_21 => ?_) (fun c_5_21 => ?_)
                          · have t_5_21 := c_5_21
                            try simp only [kb_eq0, kb_ne0, lg_cmp_lt, lg_cmp_le, lg_cmp_gt, lg_cmp_ge, lg_cmp_eq] at t_5_21
                            try simp only [Int32.lt_iff_toInt_lt, Int32.le_iff_toInt_le, ← Int32.toInt_inj, Int64.lt_iff_toInt_lt, Int64.le_iff_toInt_le, ← Int64.toInt_inj, Int32.toInt_toInt64, Int32.reduceToInt, Int64.reduceToInt] at t_5_21
                            refine kVret (u := ()) hx hb hr hlocks hS dX2_addNumber_40 ?_ (hP.sub [0, 1] rfl) (hD.sub [0, 1] (by decide) rfl)
                            exact trivial
                          · exact absurd (by decide) c_5_21
                  · exact absurd c_15_10 (by decide)
            · exact absurd c_15_6 (by decide)
      · exact absurd c_15_2 (by decide)
set_option maxRecDepth 100000 in
set_option maxHeartbeats 4000000 in
theorem c_addZ_4 (l : Launch) (D : va_G) (cI cL cB cZ cT : ClassId) (sz : Nat) (aW bW : Nat) (fw : Nat → Int32) : kM (S := Unit) l yX2_addNumber wsX2_addNumber ({ frames := 1, cells := 0, slots := 0, locals := 21 }) D (kT cI cL cB cZ cT) [.ref aW, .int 0] [(aW, .inr (2, [.ref bW, .int 4])), (bW, .inl (cB, 11, .inl fw))] sz eV (fun _ _ => True) (fun _ => [(aW, .inr (2, [.ref bW, .int 5])), (bW, .inl (cB, 11, .inl (upd fw (4 : Int32).toNatClampNeg (vp_nar .byte (48 : Int32).toInt8.toInt32))))]) 0 0 := by
  refine kStart (cc := cX2_addNumber) (maxL := 3) (ret := none) (own := RX2) (by decide) rfl rfl (Nat.le_of_ble_eq_true rfl) ?_
  intro p e s m args below meth c A ls hx hb hr hml hown hts hlocks hnm hsz hA hG hP hD hS hl
  have hK := hG.1
  have hl : lv_has ls 3 [(0, .ref aW), (1, .int 0)] := hl
  refine lv_sipush (v := 1000) hx hb dX2_addNumber_0 (by decide) ?_
  refine lv_istore_n (lv' := [(2, .int 1000), (0, .ref aW), (1, .int 0)]) hx hb dX2_addNumber_3 rfl hl (by decide) rfl (fun ls hl => ?_)
  refine lv_iload_n hx hb dX2_addNumber_4 rfl (lv_at hl 0 rfl) ?_
  refine lv_if_le (tgt := 40) hx hb dX2_addNumber_5 (by decide) (fun c_5_0 => ?_) (fun c_5_0 => ?_)
  · exact absurd c_5_0 (by decide)
  · have t_5_0 := c_5_0
    try simp only [kb_eq0, kb_ne0, lg_cmp_lt, lg_cmp_le, lg_cmp_gt, lg_cmp_ge, lg_cmp_eq] at t_5_0
    try simp only [Int32.lt_iff_toInt_lt, Int32.le_iff_toInt_le, ← Int32.toInt_inj, Int64.lt_iff_toInt_lt, Int64.le_iff_toInt_le, ← Int64.toInt_inj, Int32.toInt_toInt64, Int32.reduceToInt, Int64.reduceToInt] at t_5_0
    refine lv_iload_n hx hb dX2_addNumber_8 rfl (lv_at hl 2 rfl) ?_
    refine lv_iload_n hx hb dX2_addNumber_9 rfl (lv_at hl 0 rfl) ?_
    refine lv_icmp_ge (tgt := 18) hx hb dX2_addNumber_10 (by decide) (fun c_10_1 => ?_) (fun c_10_1 => ?_)
    · exact absurd c_10_1 (by decide)
    · have t_10_1 := c_10_1
      try simp only [kb_eq0, kb_ne0, lg_cmp_lt, lg_cmp_le, lg_cmp_gt, lg_cmp_ge, lg_cmp_eq] at t_10_1
      try simp only [Int32.lt_iff_toInt_lt, Int32.le_iff_toInt_le, ← Int32.toInt_inj, Int64.lt_iff_toInt_lt, Int64.le_iff_toInt_le, ← Int64.toInt_inj, Int32.toInt_toInt64, Int32.reduceToInt, Int64.reduceToInt] at t_10_1
      refine lv_iload_n hx hb dX2_addNumber_13 rfl (lv_at hl 0 rfl) ?_
      refine lv_iconst (v := 1) hx hb dX2_addNumber_14 (by decide) ?_
      refine lv_icmp_ne (tgt := 32) hx hb dX2_addNumber_15 (by decide) (fun c_15_2 => ?_) (fun c_15_2 => ?_)
      · have t_15_2 := c_15_2
        try simp only [kb_eq0, kb_ne0, lg_cmp_lt, lg_cmp_le, lg_cmp_gt, lg_cmp_ge, lg_cmp_eq] at t_15_2
        try simp only [Int32.lt_iff_toInt_lt, Int32.le_iff_toInt_le, ← Int32.toInt_inj, Int64.lt_iff_toInt_lt, Int64.le_iff_toInt_le, ← Int64.toInt_inj, Int32.toInt_toInt64, Int32.reduceToInt, Int64.reduceToInt] at t_15_2
        refine lv_iload_n hx hb dX2_addNumber_32 rfl (lv_at hl 0 rfl) ?_
        refine lv_bipush (v := 10) hx hb dX2_addNumber_33 (by decide) ?_
        refine lv_idiv hx hb dX2_addNumber_35 (by decide) ?_
        refine lv_topi (fun x_4 ex_4 => ?_)
        obtain rfl : x_4 = 100 := ex_4.trans (by decide)
        refine lv_istore_n (lv' := [(2, .int 100), (0, .ref aW), (1, .int 0)]) hx hb dX2_addNumber_36 rfl hl (by decide) rfl (fun ls hl => ?_)
        refine lv_goto (tgt := 4) hx hb dX2_addNumber_37 (by decide) ?_
        refine lv_iload_n hx hb dX2_addNumber_4 rfl (lv_at hl 0 rfl) ?_
        refine lv_if_le (tgt := 40) hx hb dX2_addNumber_5 (by decide) (fun c_5_4 => ?_) (fun c_5_4 => ?_)
        · exact absurd c_5_4 (by decide)
        · have t_5_4 := c_5_4
          try simp only [kb_eq0, kb_ne0, lg_cmp_lt, lg_cmp_le, lg_cmp_gt, lg_cmp_ge, lg_cmp_eq] at t_5_4
          try simp only [Int32.lt_iff_toInt_lt, Int32.le_iff_toInt_le, ← Int32.toInt_inj, Int64.lt_iff_toInt_lt, Int64.le_iff_toInt_le, ← Int64.toInt_inj, Int32.toInt_toInt64, Int32.reduceToInt, Int64.reduceToInt] at t_5_4
          refine lv_iload_n hx hb dX2_addNumber_8 rfl (lv_at hl 2 rfl) ?_
          refine lv_iload_n hx hb dX2_addNumber_9 rfl (lv_at hl 0 rfl) ?_
          refine lv_icmp_ge (tgt := 18) hx hb dX2_addNumber_10 (by decide) (fun c_10_5 => ?_) (fun c_10_5 => ?_)
          · exact absurd c_10_5 (by decide)
          · have t_10_5 := c_10_5
            try simp only [kb_eq0, kb_ne0, lg_cmp_lt, lg_cmp_le, lg_cmp_gt, lg_cmp_ge, lg_cmp_eq] at t_10_5
            try simp only [Int32.lt_iff_toInt_lt, Int32.le_iff_toInt_le, ← Int32.toInt_inj, Int64.lt_iff_toInt_lt, Int64.le_iff_toInt_le, ← Int64.toInt_inj, Int32.toInt_toInt64, Int32.reduceToInt, Int64.reduceToInt] at t_10_5
            refine lv_iload_n hx hb dX2_addNumber_13 rfl (lv_at hl 0 rfl) ?_
            refine lv_iconst (v := 1) hx hb dX2_addNumber_14 (by decide) ?_
            refine lv_icmp_ne (tgt := 32) hx hb dX2_addNumber_15 (by decide) (fun c_15_6 => ?_) (fun c_15_6 => ?_)
            · have t_15_6 := c_15_6
              try simp only [kb_eq0, kb_ne0, lg_cmp_lt, lg_cmp_le, lg_cmp_gt, lg_cmp_ge, lg_cmp_eq] at t_15_6
              try simp only [Int32.lt_iff_toInt_lt, Int32.le_iff_toInt_le, ← Int32.toInt_inj, Int64.lt_iff_toInt_lt, Int64.le_iff_toInt_le, ← Int64.toInt_inj, Int32.toInt_toInt64, Int32.reduceToInt, Int64.reduceToInt] at t_15_6
              refine lv_iload_n hx hb dX2_addNumber_32 rfl (lv_at hl 0 rfl) ?_
              refine lv_bipush (v := 10) hx hb dX2_addNumber_33 (by decide) ?_
              refine lv_idiv hx hb dX2_addNumber_35 (by decide) ?_
              refine lv_topi (fun x_8 ex_8 => ?_)
              obtain rfl : x_8 = 10 := ex_8.trans (by decide)
              refine lv_istore_n (lv' := [(2, .int 10), (0, .ref aW), (1, .int 0)]) hx hb dX2_addNumber_36 rfl hl (by decide) rfl (fun ls hl => ?_)
              refine lv_goto (tgt := 4) hx hb dX2_addNumber_37 (by decide) ?_
              refine lv_iload_n hx hb dX2_addNumber_4 rfl (lv_at hl 0 rfl) ?_
              refine lv_if_le (tgt := 40) hx hb dX2_addNumber_5 (by decide) (fun c_5_8 => ?_) (fun c_5_8 => ?_)
              · exact absurd c_5_8 (by decide)
              · have t_5_8 := c_5_8
                try simp only [kb_eq0, kb_ne0, lg_cmp_lt, lg_cmp_le, lg_cmp_gt, lg_cmp_ge, lg_cmp_eq] at t_5_8
                try simp only [Int32.lt_iff_toInt_lt, Int32.le_iff_toInt_le, ← Int32.toInt_inj, Int64.lt_iff_toInt_lt, Int64.le_iff_toInt_le, ← Int64.toInt_inj, Int32.toInt_toInt64, Int32.reduceToInt, Int64.reduceToInt] at t_5_8
                refine lv_iload_n hx hb dX2_addNumber_8 rfl (lv_at hl 2 rfl) ?_
                refine lv_iload_n hx hb dX2_addNumber_9 rfl (lv_at hl 0 rfl) ?_
                refine lv_icmp_ge (tgt := 18) hx hb dX2_addNumber_10 (by decide) (fun c_10_9 => ?_) (fun c_10_9 => ?_)
                · exact absurd c_10_9 (by decide)
                · have t_10_9 := c_10_9
                  try simp only [kb_eq0, kb_ne0, lg_cmp_lt, lg_cmp_le, lg_cmp_gt, lg_cmp_ge, lg_cmp_eq] at t_10_9
                  try simp only [Int32.lt_iff_toInt_lt, Int32.le_iff_toInt_le, ← Int32.toInt_inj, Int64.lt_iff_toInt_lt, Int64.le_iff_toInt_le, ← Int64.toInt_inj, Int32.toInt_toInt64, Int32.reduceToInt, Int64.reduceToInt] at t_10_9
                  refine lv_iload_n hx hb dX2_addNumber_13 rfl (lv_at hl 0 rfl) ?_
                  refine lv_iconst (v := 1) hx hb dX2_addNumber_14 (by decide) ?_
                  refine lv_icmp_ne (tgt := 32) hx hb dX2_addNumber_15 (by decide) (fun c_15_10 => ?_) (fun c_15_10 => ?_)
                  · have t_15_10 := c_15_10
                    try simp only [kb_eq0, kb_ne0, lg_cmp_lt, lg_cmp_le, lg_cmp_gt, lg_cmp_ge, lg_cmp_eq] at t_15_10
                    try simp only [Int32.lt_iff_toInt_lt, Int32.le_iff_toInt_le, ← Int32.toInt_inj, Int64.lt_iff_toInt_lt, Int64.le_iff_toInt_le, ← Int64.toInt_inj, Int32.toInt_toInt64, Int32.reduceToInt, Int64.reduceToInt] at t_15_10
                    refine lv_iload_n hx hb dX2_addNumber_32 rfl (lv_at hl 0 rfl) ?_
                    refine lv_bipush (v := 10) hx hb dX2_addNumber_33 (by decide) ?_
                    refine lv_idiv hx hb dX2_addNumber_35 (by decide) ?_
                    refine lv_topi (fun x_12 ex_12 => ?_)
                    obtain rfl : x_12 = 1 := ex_12.trans (by decide)
                    refine lv_istore_n (lv' := [(2, .int 1), (0, .ref aW), (1, .int 0)]) hx hb dX2_addNumber_36 rfl hl (by decide) rfl (fun ls hl => ?_)
                    refine lv_goto (tgt := 4) hx hb dX2_addNumber_37 (by decide) ?_
                    refine lv_iload_n hx hb dX2_addNumber_4 rfl (lv_at hl 0 rfl) ?_
                    refine lv_if_le (tgt := 40) hx hb dX2_addNumber_5 (by decide) (fun c_5_12 => ?_) (fun c_5_12 => ?_)
                    · exact absurd c_5_12 (by decide)
                    · have t_5_12 := c_5_12
                      try simp only [kb_eq0, kb_ne0, lg_cmp_lt, lg_cmp_le, lg_cmp_gt, lg_cmp_ge, lg_cmp_eq] at t_5_12
                      try simp only [Int32.lt_iff_toInt_lt, Int32.le_iff_toInt_le, ← Int32.toInt_inj, Int64.lt_iff_toInt_lt, Int64.le_iff_toInt_le, ← Int64.toInt_inj, Int32.toInt_toInt64, Int32.reduceToInt, Int64.reduceToInt] at t_5_12
                      refine lv_iload_n hx hb dX2_addNumber_8 rfl (lv_at hl 2 rfl) ?_
                      refine lv_iload_n hx hb dX2_addNumber_9 rfl (lv_at hl 0 rfl) ?_
                      refine lv_icmp_ge (tgt := 18) hx hb dX2_addNumber_10 (by decide) (fun c_10_13 => ?_) (fun c_10_13 => ?_)
                      · exact absurd c_10_13 (by decide)
                      · have t_10_13 := c_10_13
                        try simp only [kb_eq0, kb_ne0, lg_cmp_lt, lg_cmp_le, lg_cmp_gt, lg_cmp_ge, lg_cmp_eq] at t_10_13
                        try simp only [Int32.lt_iff_toInt_lt, Int32.le_iff_toInt_le, ← Int32.toInt_inj, Int64.lt_iff_toInt_lt, Int64.le_iff_toInt_le, ← Int64.toInt_inj, Int32.toInt_toInt64, Int32.reduceToInt, Int64.reduceToInt] at t_10_13
                        refine lv_iload_n hx hb dX2_addNumber_13 rfl (lv_at hl 0 rfl) ?_
                        refine lv_iconst (v := 1) hx hb dX2_addNumber_14 (by decide) ?_
                        refine lv_icmp_ne (tgt := 32) hx hb dX2_addNumber_15 (by decide) (fun c_15_14 => ?_) (fun c_15_14 => ?_)
                        · exact absurd (by decide) c_15_14
                        · have t_15_14 := c_15_14
                          try simp only [kb_eq0, kb_ne0, lg_cmp_lt, lg_cmp_le, lg_cmp_gt, lg_cmp_ge, lg_cmp_eq] at t_15_14
                          try simp only [Int32.lt_iff_toInt_lt, Int32.le_iff_toInt_le, ← Int32.toInt_inj, Int64.lt_iff_toInt_lt, Int64.le_iff_toInt_le, ← Int64.toInt_inj, Int32.toInt_toInt64, Int32.reduceToInt, Int64.reduceToInt] at t_15_14
                          refine lv_aload_n hx hb dX2_addNumber_18 rfl (lv_at hl 1 rfl) ?_
                          refine lv_bipush (v := 48) hx hb dX2_addNumber_19 (by decide) ?_
                          refine lv_iload_n hx hb dX2_addNumber_21 rfl (lv_at hl 2 rfl) ?_
                          refine lv_iload_n hx hb dX2_addNumber_22 rfl (lv_at hl 0 rfl) ?_
                          refine lv_idiv hx hb dX2_addNumber_23 (by decide) ?_
                          refine lv_topi (fun x_16 ex_16 => ?_)
                          obtain rfl : x_16 = 0 := ex_16.trans (by decide)
                          refine lv_bipush (v := 10) hx hb dX2_addNumber_24 (by decide) ?_
                          refine lv_irem hx hb dX2_addNumber_26 (by decide) ?_
                          refine lv_topi (fun x_17 ex_17 => ?_)
                          obtain rfl : x_17 = 0 := ex_17.trans (by decide)
                          refine lv_iadd hx hb dX2_addNumber_27 ?_
                          refine lv_topi (fun x_18 ex_18 => ?_)
                          obtain rfl : x_18 = 48 := ex_18.trans (by decide)
                          refine lv_i2c hx hb dX2_addNumber_28 rfl ?_
                          refine lv_topi (fun x_19 ex_19 => ?_)
                          obtain rfl : x_19 = 48 := ex_19.trans (by decide)
                          refine kCallVd (wr := []) (va_runV (As := [.int 48]) (rest := []) ⟨hx, hb, hml, hown, hts⟩ (c_addByte_4 l D cI cL cB cZ cT _ aW bW fw 48) (cwV 1 hts gX2_addNumber_X2_addByte rfl rfl rfl (by decide +kernel) ⟨Nat.le_of_ble_eq_true rfl, Nat.le_of_ble_eq_true rfl⟩) (kPreV hG hP hD [0, 1] rfl (by decide) 0 2 rfl rfl rfl) rfl rfl hl.1 rfl (lv_room (Nat.le_of_ble_eq_true rfl)) dX2_addNumber_29 ⟨Nat.le_of_ble_eq_true rfl, Nat.le_of_ble_eq_true rfl⟩) hA hP hD hS [0, 1] [] rfl rfl (by decide) (by decide) (fun _ u_r_20 H locs wr_20 hP hD hS => ?_)
                          have hP : va_P D vwCl [(aW, .inr (2, [.ref bW, .int 5])), (bW, .inl (cB, 11, .inl (upd fw (4 : Int32).toNatClampNeg (vp_nar .byte (48 : Int32).toInt8.toInt32))))] H := hP
                          have hD : va_D A [(aW, .inr (2, [.ref bW, .int 5])), (bW, .inl (cB, 11, .inl (upd fw (4 : Int32).toNatClampNeg (vp_nar .byte (48 : Int32).toInt8.toInt32))))] := hD
                          try dsimp only at wr_20
                          refine lv_iload_n hx hb dX2_addNumber_32 rfl (lv_at hl 0 rfl) ?_
                          refine lv_bipush (v := 10) hx hb dX2_addNumber_33 (by decide) ?_
                          refine lv_idiv hx hb dX2_addNumber_35 (by decide) ?_
                          refine lv_topi (fun x_21 ex_21 => ?_)
                          obtain rfl : x_21 = 0 := ex_21.trans (by decide)
                          refine lv_istore_n (lv' := [(2, .int 0), (0, .ref aW), (1, .int 0)]) hx hb dX2_addNumber_36 rfl hl (by decide) rfl (fun ls hl => ?_)
                          refine lv_goto (tgt := 4) hx hb dX2_addNumber_37 (by decide) ?_
                          refine lv_iload_n hx hb dX2_addNumber_4 rfl (lv_at hl 0 rfl) ?_
                          refine lv_if_le (tgt := 40) hx hb dX2_addNumber_5 (by decide) (fun c_5_21 => ?_) (fun c_5_21 => ?_)
                          · have t_5_21 := c_5_21
                            try simp only [kb_eq0, kb_ne0, lg_cmp_lt, lg_cmp_le, lg_cmp_gt, lg_cmp_ge, lg_cmp_eq] at t_5_21
                            try simp only [Int32.lt_iff_toInt_lt, Int32.le_iff_toInt_le, ← Int32.toInt_inj, Int64.lt_iff_toInt_lt, Int64.le_iff_toInt_le, ← Int64.toInt_inj, Int32.toInt_toInt64, Int32.reduceToInt, Int64.reduceToInt] at t_5_21
                            refine kVret (u := ()) hx hb hr hlocks hS dX2_addNumber_40 ?_ (hP.sub [0, 1] rfl) (hD.sub [0, 1] (by decide) rfl)
                            exact trivial
                          · exact absurd (by decide) c_5_21
                  · exact absurd c_15_10 (by decide)
            · exact absurd c_15_6 (by decide)
      · exact absurd c_15_2 (by decide)
set_option maxRecDepth 100000 in
set_option maxHeartbeats 4000000 in
theorem c_addZ_5 (l : Launch) (D : va_G) (cI cL cB cZ cT : ClassId) (sz : Nat) (aW bW : Nat) (fw : Nat → Int32) : kM (S := Unit) l yX2_addNumber wsX2_addNumber ({ frames := 1, cells := 0, slots := 0, locals := 21 }) D (kT cI cL cB cZ cT) [.ref aW, .int 0] [(aW, .inr (2, [.ref bW, .int 5])), (bW, .inl (cB, 11, .inl fw))] sz eV (fun _ _ => True) (fun _ => [(aW, .inr (2, [.ref bW, .int 6])), (bW, .inl (cB, 11, .inl (upd fw (5 : Int32).toNatClampNeg (vp_nar .byte (48 : Int32).toInt8.toInt32))))]) 0 0 := by
  refine kStart (cc := cX2_addNumber) (maxL := 3) (ret := none) (own := RX2) (by decide) rfl rfl (Nat.le_of_ble_eq_true rfl) ?_
  intro p e s m args below meth c A ls hx hb hr hml hown hts hlocks hnm hsz hA hG hP hD hS hl
  have hK := hG.1
  have hl : lv_has ls 3 [(0, .ref aW), (1, .int 0)] := hl
  refine lv_sipush (v := 1000) hx hb dX2_addNumber_0 (by decide) ?_
  refine lv_istore_n (lv' := [(2, .int 1000), (0, .ref aW), (1, .int 0)]) hx hb dX2_addNumber_3 rfl hl (by decide) rfl (fun ls hl => ?_)
  refine lv_iload_n hx hb dX2_addNumber_4 rfl (lv_at hl 0 rfl) ?_
  refine lv_if_le (tgt := 40) hx hb dX2_addNumber_5 (by decide) (fun c_5_0 => ?_) (fun c_5_0 => ?_)
  · exact absurd c_5_0 (by decide)
  · have t_5_0 := c_5_0
    try simp only [kb_eq0, kb_ne0, lg_cmp_lt, lg_cmp_le, lg_cmp_gt, lg_cmp_ge, lg_cmp_eq] at t_5_0
    try simp only [Int32.lt_iff_toInt_lt, Int32.le_iff_toInt_le, ← Int32.toInt_inj, Int64.lt_iff_toInt_lt, Int64.le_iff_toInt_le, ← Int64.toInt_inj, Int32.toInt_toInt64, Int32.reduceToInt, Int64.reduceToInt] at t_5_0
    refine lv_iload_n hx hb dX2_addNumber_8 rfl (lv_at hl 2 rfl) ?_
    refine lv_iload_n hx hb dX2_addNumber_9 rfl (lv_at hl 0 rfl) ?_
    refine lv_icmp_ge (tgt := 18) hx hb dX2_addNumber_10 (by decide) (fun c_10_1 => ?_) (fun c_10_1 => ?_)
    · exact absurd c_10_1 (by decide)
    · have t_10_1 := c_10_1
      try simp only [kb_eq0, kb_ne0, lg_cmp_lt, lg_cmp_le, lg_cmp_gt, lg_cmp_ge, lg_cmp_eq] at t_10_1
      try simp only [Int32.lt_iff_toInt_lt, Int32.le_iff_toInt_le, ← Int32.toInt_inj, Int64.lt_iff_toInt_lt, Int64.le_iff_toInt_le, ← Int64.toInt_inj, Int32.toInt_toInt64, Int32.reduceToInt, Int64.reduceToInt] at t_10_1
      refine lv_iload_n hx hb dX2_addNumber_13 rfl (lv_at hl 0 rfl) ?_
      refine lv_iconst (v := 1) hx hb dX2_addNumber_14 (by decide) ?_
      refine lv_icmp_ne (tgt := 32) hx hb dX2_addNumber_15 (by decide) (fun c_15_2 => ?_) (fun c_15_2 => ?_)
      · have t_15_2 := c_15_2
        try simp only [kb_eq0, kb_ne0, lg_cmp_lt, lg_cmp_le, lg_cmp_gt, lg_cmp_ge, lg_cmp_eq] at t_15_2
        try simp only [Int32.lt_iff_toInt_lt, Int32.le_iff_toInt_le, ← Int32.toInt_inj, Int64.lt_iff_toInt_lt, Int64.le_iff_toInt_le, ← Int64.toInt_inj, Int32.toInt_toInt64, Int32.reduceToInt, Int64.reduceToInt] at t_15_2
        refine lv_iload_n hx hb dX2_addNumber_32 rfl (lv_at hl 0 rfl) ?_
        refine lv_bipush (v := 10) hx hb dX2_addNumber_33 (by decide) ?_
        refine lv_idiv hx hb dX2_addNumber_35 (by decide) ?_
        refine lv_topi (fun x_4 ex_4 => ?_)
        obtain rfl : x_4 = 100 := ex_4.trans (by decide)
        refine lv_istore_n (lv' := [(2, .int 100), (0, .ref aW), (1, .int 0)]) hx hb dX2_addNumber_36 rfl hl (by decide) rfl (fun ls hl => ?_)
        refine lv_goto (tgt := 4) hx hb dX2_addNumber_37 (by decide) ?_
        refine lv_iload_n hx hb dX2_addNumber_4 rfl (lv_at hl 0 rfl) ?_
        refine lv_if_le (tgt := 40) hx hb dX2_addNumber_5 (by decide) (fun c_5_4 => ?_) (fun c_5_4 => ?_)
        · exact absurd c_5_4 (by decide)
        · have t_5_4 := c_5_4
          try simp only [kb_eq0, kb_ne0, lg_cmp_lt, lg_cmp_le, lg_cmp_gt, lg_cmp_ge, lg_cmp_eq] at t_5_4
          try simp only [Int32.lt_iff_toInt_lt, Int32.le_iff_toInt_le, ← Int32.toInt_inj, Int64.lt_iff_toInt_lt, Int64.le_iff_toInt_le, ← Int64.toInt_inj, Int32.toInt_toInt64, Int32.reduceToInt, Int64.reduceToInt] at t_5_4
          refine lv_iload_n hx hb dX2_addNumber_8 rfl (lv_at hl 2 rfl) ?_
          refine lv_iload_n hx hb dX2_addNumber_9 rfl (lv_at hl 0 rfl) ?_
          refine lv_icmp_ge (tgt := 18) hx hb dX2_addNumber_10 (by decide) (fun c_10_5 => ?_) (fun c_10_5 => ?_)
          · exact absurd c_10_5 (by decide)
          · have t_10_5 := c_10_5
            try simp only [kb_eq0, kb_ne0, lg_cmp_lt, lg_cmp_le, lg_cmp_gt, lg_cmp_ge, lg_cmp_eq] at t_10_5
            try simp only [Int32.lt_iff_toInt_lt, Int32.le_iff_toInt_le, ← Int32.toInt_inj, Int64.lt_iff_toInt_lt, Int64.le_iff_toInt_le, ← Int64.toInt_inj, Int32.toInt_toInt64, Int32.reduceToInt, Int64.reduceToInt] at t_10_5
            refine lv_iload_n hx hb dX2_addNumber_13 rfl (lv_at hl 0 rfl) ?_
            refine lv_iconst (v := 1) hx hb dX2_addNumber_14 (by decide) ?_
            refine lv_icmp_ne (tgt := 32) hx hb dX2_addNumber_15 (by decide) (fun c_15_6 => ?_) (fun c_15_6 => ?_)
            · have t_15_6 := c_15_6
              try simp only [kb_eq0, kb_ne0, lg_cmp_lt, lg_cmp_le, lg_cmp_gt, lg_cmp_ge, lg_cmp_eq] at t_15_6
              try simp only [Int32.lt_iff_toInt_lt, Int32.le_iff_toInt_le, ← Int32.toInt_inj, Int64.lt_iff_toInt_lt, Int64.le_iff_toInt_le, ← Int64.toInt_inj, Int32.toInt_toInt64, Int32.reduceToInt, Int64.reduceToInt] at t_15_6
              refine lv_iload_n hx hb dX2_addNumber_32 rfl (lv_at hl 0 rfl) ?_
              refine lv_bipush (v := 10) hx hb dX2_addNumber_33 (by decide) ?_
              refine lv_idiv hx hb dX2_addNumber_35 (by decide) ?_
              refine lv_topi (fun x_8 ex_8 => ?_)
              obtain rfl : x_8 = 10 := ex_8.trans (by decide)
              refine lv_istore_n (lv' := [(2, .int 10), (0, .ref aW), (1, .int 0)]) hx hb dX2_addNumber_36 rfl hl (by decide) rfl (fun ls hl => ?_)
              refine lv_goto (tgt := 4) hx hb dX2_addNumber_37 (by decide) ?_
              refine lv_iload_n hx hb dX2_addNumber_4 rfl (lv_at hl 0 rfl) ?_
              refine lv_if_le (tgt := 40) hx hb dX2_addNumber_5 (by decide) (fun c_5_8 => ?_) (fun c_5_8 => ?_)
              · exact absurd c_5_8 (by decide)
              · have t_5_8 := c_5_8
                try simp only [kb_eq0, kb_ne0, lg_cmp_lt, lg_cmp_le, lg_cmp_gt, lg_cmp_ge, lg_cmp_eq] at t_5_8
                try simp only [Int32.lt_iff_toInt_lt, Int32.le_iff_toInt_le, ← Int32.toInt_inj, Int64.lt_iff_toInt_lt, Int64.le_iff_toInt_le, ← Int64.toInt_inj, Int32.toInt_toInt64, Int32.reduceToInt, Int64.reduceToInt] at t_5_8
                refine lv_iload_n hx hb dX2_addNumber_8 rfl (lv_at hl 2 rfl) ?_
                refine lv_iload_n hx hb dX2_addNumber_9 rfl (lv_at hl 0 rfl) ?_
                refine lv_icmp_ge (tgt := 18) hx hb dX2_addNumber_10 (by decide) (fun c_10_9 => ?_) (fun c_10_9 => ?_)
                · exact absurd c_10_9 (by decide)
                · have t_10_9 := c_10_9
                  try simp only [kb_eq0, kb_ne0, lg_cmp_lt, lg_cmp_le, lg_cmp_gt, lg_cmp_ge, lg_cmp_eq] at t_10_9
                  try simp only [Int32.lt_iff_toInt_lt, Int32.le_iff_toInt_le, ← Int32.toInt_inj, Int64.lt_iff_toInt_lt, Int64.le_iff_toInt_le, ← Int64.toInt_inj, Int32.toInt_toInt64, Int32.reduceToInt, Int64.reduceToInt] at t_10_9
                  refine lv_iload_n hx hb dX2_addNumber_13 rfl (lv_at hl 0 rfl) ?_
                  refine lv_iconst (v := 1) hx hb dX2_addNumber_14 (by decide) ?_
                  refine lv_icmp_ne (tgt := 32) hx hb dX2_addNumber_15 (by decide) (fun c_15_10 => ?_) (fun c_15_10 => ?_)
                  · have t_15_10 := c_15_10
                    try simp only [kb_eq0, kb_ne0, lg_cmp_lt, lg_cmp_le, lg_cmp_gt, lg_cmp_ge, lg_cmp_eq] at t_15_10
                    try simp only [Int32.lt_iff_toInt_lt, Int32.le_iff_toInt_le, ← Int32.toInt_inj, Int64.lt_iff_toInt_lt, Int64.le_iff_toInt_le, ← Int64.toInt_inj, Int32.toInt_toInt64, Int32.reduceToInt, Int64.reduceToInt] at t_15_10
                    refine lv_iload_n hx hb dX2_addNumber_32 rfl (lv_at hl 0 rfl) ?_
                    refine lv_bipush (v := 10) hx hb dX2_addNumber_33 (by decide) ?_
                    refine lv_idiv hx hb dX2_addNumber_35 (by decide) ?_
                    refine lv_topi (fun x_12 ex_12 => ?_)
                    obtain rfl : x_12 = 1 := ex_12.trans (by decide)
                    refine lv_istore_n (lv' := [(2, .int 1), (0, .ref aW), (1, .int 0)]) hx hb dX2_addNumber_36 rfl hl (by decide) rfl (fun ls hl => ?_)
                    refine lv_goto (tgt := 4) hx hb dX2_addNumber_37 (by decide) ?_
                    refine lv_iload_n hx hb dX2_addNumber_4 rfl (lv_at hl 0 rfl) ?_
                    refine lv_if_le (tgt := 40) hx hb dX2_addNumber_5 (by decide) (fun c_5_12 => ?_) (fun c_5_12 => ?_)
                    · exact absurd c_5_12 (by decide)
                    · have t_5_12 := c_5_12
                      try simp only [kb_eq0, kb_ne0, lg_cmp_lt, lg_cmp_le, lg_cmp_gt, lg_cmp_ge, lg_cmp_eq] at t_5_12
                      try simp only [Int32.lt_iff_toInt_lt, Int32.le_iff_toInt_le, ← Int32.toInt_inj, Int64.lt_iff_toInt_lt, Int64.le_iff_toInt_le, ← Int64.toInt_inj, Int32.toInt_toInt64, Int32.reduceToInt, Int64.reduceToInt] at t_5_12
                      refine lv_iload_n hx hb dX2_addNumber_8 rfl (lv_at hl 2 rfl) ?_
                      refine lv_iload_n hx hb dX2_addNumber_9 rfl (lv_at hl 0 rfl) ?_
                      refine lv_icmp_ge (tgt := 18) hx hb dX2_addNumber_10 (by decide) (fun c_10_13 => ?_) (fun c_10_13 => ?_)
                      · exact absurd c_10_13 (by decide)
                      · have t_10_13 := c_10_13
                        try simp only [kb_eq0, kb_ne0, lg_cmp_lt, lg_cmp_le, lg_cmp_gt, lg_cmp_ge, lg_cmp_eq] at t_10_13
                        try simp only [Int32.lt_iff_toInt_lt, Int32.le_iff_toInt_le, ← Int32.toInt_inj, Int64.lt_iff_toInt_lt, Int64.le_iff_toInt_le, ← Int64.toInt_inj, Int32.toInt_toInt64, Int32.reduceToInt, Int64.reduceToInt] at t_10_13
                        refine lv_iload_n hx hb dX2_addNumber_13 rfl (lv_at hl 0 rfl) ?_
                        refine lv_iconst (v := 1) hx hb dX2_addNumber_14 (by decide) ?_
                        refine lv_icmp_ne (tgt := 32) hx hb dX2_addNumber_15 (by decide) (fun c_15_14 => ?_) (fun c_15_14 => ?_)
                        · exact absurd (by decide) c_15_14
                        · have t_15_14 := c_15_14
                          try simp only [kb_eq0, kb_ne0, lg_cmp_lt, lg_cmp_le, lg_cmp_gt, lg_cmp_ge, lg_cmp_eq] at t_15_14
                          try simp only [Int32.lt_iff_toInt_lt, Int32.le_iff_toInt_le, ← Int32.toInt_inj, Int64.lt_iff_toInt_lt, Int64.le_iff_toInt_le, ← Int64.toInt_inj, Int32.toInt_toInt64, Int32.reduceToInt, Int64.reduceToInt] at t_15_14
                          refine lv_aload_n hx hb dX2_addNumber_18 rfl (lv_at hl 1 rfl) ?_
                          refine lv_bipush (v := 48) hx hb dX2_addNumber_19 (by decide) ?_
                          refine lv_iload_n hx hb dX2_addNumber_21 rfl (lv_at hl 2 rfl) ?_
                          refine lv_iload_n hx hb dX2_addNumber_22 rfl (lv_at hl 0 rfl) ?_
                          refine lv_idiv hx hb dX2_addNumber_23 (by decide) ?_
                          refine lv_topi (fun x_16 ex_16 => ?_)
                          obtain rfl : x_16 = 0 := ex_16.trans (by decide)
                          refine lv_bipush (v := 10) hx hb dX2_addNumber_24 (by decide) ?_
                          refine lv_irem hx hb dX2_addNumber_26 (by decide) ?_
                          refine lv_topi (fun x_17 ex_17 => ?_)
                          obtain rfl : x_17 = 0 := ex_17.trans (by decide)
                          refine lv_iadd hx hb dX2_addNumber_27 ?_
                          refine lv_topi (fun x_18 ex_18 => ?_)
                          obtain rfl : x_18 = 48 := ex_18.trans (by decide)
                          refine lv_i2c hx hb dX2_addNumber_28 rfl ?_
                          refine lv_topi (fun x_19 ex_19 => ?_)
                          obtain rfl : x_19 = 48 := ex_19.trans (by decide)
                          refine kCallVd (wr := []) (va_runV (As := [.int 48]) (rest := []) ⟨hx, hb, hml, hown, hts⟩ (c_addByte_5 l D cI cL cB cZ cT _ aW bW fw 48) (cwV 1 hts gX2_addNumber_X2_addByte rfl rfl rfl (by decide +kernel) ⟨Nat.le_of_ble_eq_true rfl, Nat.le_of_ble_eq_true rfl⟩) (kPreV hG hP hD [0, 1] rfl (by decide) 0 2 rfl rfl rfl) rfl rfl hl.1 rfl (lv_room (Nat.le_of_ble_eq_true rfl)) dX2_addNumber_29 ⟨Nat.le_of_ble_eq_true rfl, Nat.le_of_ble_eq_true rfl⟩) hA hP hD hS [0, 1] [] rfl rfl (by decide) (by decide) (fun _ u_r_20 H locs wr_20 hP hD hS => ?_)
                          have hP : va_P D vwCl [(aW, .inr (2, [.ref bW, .int 6])), (bW, .inl (cB, 11, .inl (upd fw (5 : Int32).toNatClampNeg (vp_nar .byte (48 : Int32).toInt8.toInt32))))] H := hP
                          have hD : va_D A [(aW, .inr (2, [.ref bW, .int 6])), (bW, .inl (cB, 11, .inl (upd fw (5 : Int32).toNatClampNeg (vp_nar .byte (48 : Int32).toInt8.toInt32))))] := hD
                          try dsimp only at wr_20
                          refine lv_iload_n hx hb dX2_addNumber_32 rfl (lv_at hl 0 rfl) ?_
                          refine lv_bipush (v := 10) hx hb dX2_addNumber_33 (by decide) ?_
                          refine lv_idiv hx hb dX2_addNumber_35 (by decide) ?_
                          refine lv_topi (fun x_21 ex_21 => ?_)
                          obtain rfl : x_21 = 0 := ex_21.trans (by decide)
                          refine lv_istore_n (lv' := [(2, .int 0), (0, .ref aW), (1, .int 0)]) hx hb dX2_addNumber_36 rfl hl (by decide) rfl (fun ls hl => ?_)
                          refine lv_goto (tgt := 4) hx hb dX2_addNumber_37 (by decide) ?_
                          refine lv_iload_n hx hb dX2_addNumber_4 rfl (lv_at hl 0 rfl) ?_
                          refine lv_if_le (tgt := 40) hx hb dX2_addNumber_5 (by decide) (fun c_5_21 => ?_) (fun c_5_21 => ?_)
                          · have t_5_21 := c_5_21
                            try simp only [kb_eq0, kb_ne0, lg_cmp_lt, lg_cmp_le, lg_cmp_gt, lg_cmp_ge, lg_cmp_eq] at t_5_21
                            try simp only [Int32.lt_iff_toInt_lt, Int32.le_iff_toInt_le, ← Int32.toInt_inj, Int64.lt_iff_toInt_lt, Int64.le_iff_toInt_le, ← Int64.toInt_inj, Int32.toInt_toInt64, Int32.reduceToInt, Int64.reduceToInt] at t_5_21
                            refine kVret (u := ()) hx hb hr hlocks hS dX2_addNumber_40 ?_ (hP.sub [0, 1] rfl) (hD.sub [0, 1] (by decide) rfl)
                            exact trivial
                          · exact absurd (by decide) c_5_21
                  · exact absurd c_15_10 (by decide)
            · exact absurd c_15_6 (by decide)
      · exact absurd c_15_2 (by decide)
set_option maxRecDepth 100000 in
set_option maxHeartbeats 4000000 in
theorem c_addZ_6 (l : Launch) (D : va_G) (cI cL cB cZ cT : ClassId) (sz : Nat) (aW bW : Nat) (fw : Nat → Int32) : kM (S := Unit) l yX2_addNumber wsX2_addNumber ({ frames := 1, cells := 0, slots := 0, locals := 21 }) D (kT cI cL cB cZ cT) [.ref aW, .int 0] [(aW, .inr (2, [.ref bW, .int 6])), (bW, .inl (cB, 11, .inl fw))] sz eV (fun _ _ => True) (fun _ => [(aW, .inr (2, [.ref bW, .int 7])), (bW, .inl (cB, 11, .inl (upd fw (6 : Int32).toNatClampNeg (vp_nar .byte (48 : Int32).toInt8.toInt32))))]) 0 0 := by
  refine kStart (cc := cX2_addNumber) (maxL := 3) (ret := none) (own := RX2) (by decide) rfl rfl (Nat.le_of_ble_eq_true rfl) ?_
  intro p e s m args below meth c A ls hx hb hr hml hown hts hlocks hnm hsz hA hG hP hD hS hl
  have hK := hG.1
  have hl : lv_has ls 3 [(0, .ref aW), (1, .int 0)] := hl
  refine lv_sipush (v := 1000) hx hb dX2_addNumber_0 (by decide) ?_
  refine lv_istore_n (lv' := [(2, .int 1000), (0, .ref aW), (1, .int 0)]) hx hb dX2_addNumber_3 rfl hl (by decide) rfl (fun ls hl => ?_)
  refine lv_iload_n hx hb dX2_addNumber_4 rfl (lv_at hl 0 rfl) ?_
  refine lv_if_le (tgt := 40) hx hb dX2_addNumber_5 (by decide) (fun c_5_0 => ?_) (fun c_5_0 => ?_)
  · exact absurd c_5_0 (by decide)
  · have t_5_0 := c_5_0
    try simp only [kb_eq0, kb_ne0, lg_cmp_lt, lg_cmp_le, lg_cmp_gt, lg_cmp_ge, lg_cmp_eq] at t_5_0
    try simp only [Int32.lt_iff_toInt_lt, Int32.le_iff_toInt_le, ← Int32.toInt_inj, Int64.lt_iff_toInt_lt, Int64.le_iff_toInt_le, ← Int64.toInt_inj, Int32.toInt_toInt64, Int32.reduceToInt, Int64.reduceToInt] at t_5_0
    refine lv_iload_n hx hb dX2_addNumber_8 rfl (lv_at hl 2 rfl) ?_
    refine lv_iload_n hx hb dX2_addNumber_9 rfl (lv_at hl 0 rfl) ?_
    refine lv_icmp_ge (tgt := 18) hx hb dX2_addNumber_10 (by decide) (fun c_10_1 => ?_) (fun c_10_1 => ?_)
    · exact absurd c_10_1 (by decide)
    · have t_10_1 := c_10_1
      try simp only [kb_eq0, kb_ne0, lg_cmp_lt, lg_cmp_le, lg_cmp_gt, lg_cmp_ge, lg_cmp_eq] at t_10_1
      try simp only [Int32.lt_iff_toInt_lt, Int32.le_iff_toInt_le, ← Int32.toInt_inj, Int64.lt_iff_toInt_lt, Int64.le_iff_toInt_le, ← Int64.toInt_inj, Int32.toInt_toInt64, Int32.reduceToInt, Int64.reduceToInt] at t_10_1
      refine lv_iload_n hx hb dX2_addNumber_13 rfl (lv_at hl 0 rfl) ?_
      refine lv_iconst (v := 1) hx hb dX2_addNumber_14 (by decide) ?_
      refine lv_icmp_ne (tgt := 32) hx hb dX2_addNumber_15 (by decide) (fun c_15_2 => ?_) (fun c_15_2 => ?_)
      · have t_15_2 := c_15_2
        try simp only [kb_eq0, kb_ne0, lg_cmp_lt, lg_cmp_le, lg_cmp_gt, lg_cmp_ge, lg_cmp_eq] at t_15_2
        try simp only [Int32.lt_iff_toInt_lt, Int32.le_iff_toInt_le, ← Int32.toInt_inj, Int64.lt_iff_toInt_lt, Int64.le_iff_toInt_le, ← Int64.toInt_inj, Int32.toInt_toInt64, Int32.reduceToInt, Int64.reduceToInt] at t_15_2
        refine lv_iload_n hx hb dX2_addNumber_32 rfl (lv_at hl 0 rfl) ?_
        refine lv_bipush (v := 10) hx hb dX2_addNumber_33 (by decide) ?_
        refine lv_idiv hx hb dX2_addNumber_35 (by decide) ?_
        refine lv_topi (fun x_4 ex_4 => ?_)
        obtain rfl : x_4 = 100 := ex_4.trans (by decide)
        refine lv_istore_n (lv' := [(2, .int 100), (0, .ref aW), (1, .int 0)]) hx hb dX2_addNumber_36 rfl hl (by decide) rfl (fun ls hl => ?_)
        refine lv_goto (tgt := 4) hx hb dX2_addNumber_37 (by decide) ?_
        refine lv_iload_n hx hb dX2_addNumber_4 rfl (lv_at hl 0 rfl) ?_
        refine lv_if_le (tgt := 40) hx hb dX2_addNumber_5 (by decide) (fun c_5_4 => ?_) (fun c_5_4 => ?_)
        · exact absurd c_5_4 (by decide)
        · have t_5_4 := c_5_4
          try simp only [kb_eq0, kb_ne0, lg_cmp_lt, lg_cmp_le, lg_cmp_gt, lg_cmp_ge, lg_cmp_eq] at t_5_4
          try simp only [Int32.lt_iff_toInt_lt, Int32.le_iff_toInt_le, ← Int32.toInt_inj, Int64.lt_iff_toInt_lt, Int64.le_iff_toInt_le, ← Int64.toInt_inj, Int32.toInt_toInt64, Int32.reduceToInt, Int64.reduceToInt] at t_5_4
          refine lv_iload_n hx hb dX2_addNumber_8 rfl (lv_at hl 2 rfl) ?_
          refine lv_iload_n hx hb dX2_addNumber_9 rfl (lv_at hl 0 rfl) ?_
          refine lv_icmp_ge (tgt := 18) hx hb dX2_addNumber_10 (by decide) (fun c_10_5 => ?_) (fun c_10_5 => ?_)
          · exact absurd c_10_5 (by decide)
          · have t_10_5 := c_10_5
            try simp only [kb_eq0, kb_ne0, lg_cmp_lt, lg_cmp_le, lg_cmp_gt, lg_cmp_ge, lg_cmp_eq] at t_10_5
            try simp only [Int32.lt_iff_toInt_lt, Int32.le_iff_toInt_le, ← Int32.toInt_inj, Int64.lt_iff_toInt_lt, Int64.le_iff_toInt_le, ← Int64.toInt_inj, Int32.toInt_toInt64, Int32.reduceToInt, Int64.reduceToInt] at t_10_5
            refine lv_iload_n hx hb dX2_addNumber_13 rfl (lv_at hl 0 rfl) ?_
            refine lv_iconst (v := 1) hx hb dX2_addNumber_14 (by decide) ?_
            refine lv_icmp_ne (tgt := 32) hx hb dX2_addNumber_15 (by decide) (fun c_15_6 => ?_) (fun c_15_6 => ?_)
            · have t_15_6 := c_15_6
              try simp only [kb_eq0, kb_ne0, lg_cmp_lt, lg_cmp_le, lg_cmp_gt, lg_cmp_ge, lg_cmp_eq] at t_15_6
              try simp only [Int32.lt_iff_toInt_lt, Int32.le_iff_toInt_le, ← Int32.toInt_inj, Int64.lt_iff_toInt_lt, Int64.le_iff_toInt_le, ← Int64.toInt_inj, Int32.toInt_toInt64, Int32.reduceToInt, Int64.reduceToInt] at t_15_6
              refine lv_iload_n hx hb dX2_addNumber_32 rfl (lv_at hl 0 rfl) ?_
              refine lv_bipush (v := 10) hx hb dX2_addNumber_33 (by decide) ?_
              refine lv_idiv hx hb dX2_addNumber_35 (by decide) ?_
              refine lv_topi (fun x_8 ex_8 => ?_)
              obtain rfl : x_8 = 10 := ex_8.trans (by decide)
              refine lv_istore_n (lv' := [(2, .int 10), (0, .ref aW), (1, .int 0)]) hx hb dX2_addNumber_36 rfl hl (by decide) rfl (fun ls hl => ?_)
              refine lv_goto (tgt := 4) hx hb dX2_addNumber_37 (by decide) ?_
              refine lv_iload_n hx hb dX2_addNumber_4 rfl (lv_at hl 0 rfl) ?_
              refine lv_if_le (tgt := 40) hx hb dX2_addNumber_5 (by decide) (fun c_5_8 => ?_) (fun c_5_8 => ?_)
              · exact absurd c_5_8 (by decide)
              · have t_5_8 := c_5_8
                try simp only [kb_eq0, kb_ne0, lg_cmp_lt, lg_cmp_le, lg_cmp_gt, lg_cmp_ge, lg_cmp_eq] at t_5_8
                try simp only [Int32.lt_iff_toInt_lt, Int32.le_iff_toInt_le, ← Int32.toInt_inj, Int64.lt_iff_toInt_lt, Int64.le_iff_toInt_le, ← Int64.toInt_inj, Int32.toInt_toInt64, Int32.reduceToInt, Int64.reduceToInt] at t_5_8
                refine lv_iload_n hx hb dX2_addNumber_8 rfl (lv_at hl 2 rfl) ?_
                refine lv_iload_n hx hb dX2_addNumber_9 rfl (lv_at hl 0 rfl) ?_
                refine lv_icmp_ge (tgt := 18) hx hb dX2_addNumber_10 (by decide) (fun c_10_9 => ?_) (fun c_10_9 => ?_)
                · exact absurd c_10_9 (by decide)
                · have t_10_9 := c_10_9
                  try simp only [kb_eq0, kb_ne0, lg_cmp_lt, lg_cmp_le, lg_cmp_gt, lg_cmp_ge, lg_cmp_eq] at t_10_9
                  try simp only [Int32.lt_iff_toInt_lt, Int32.le_iff_toInt_le, ← Int32.toInt_inj, Int64.lt_iff_toInt_lt, Int64.le_iff_toInt_le, ← Int64.toInt_inj, Int32.toInt_toInt64, Int32.reduceToInt, Int64.reduceToInt] at t_10_9
                  refine lv_iload_n hx hb dX2_addNumber_13 rfl (lv_at hl 0 rfl) ?_
                  refine lv_iconst (v := 1) hx hb dX2_addNumber_14 (by decide) ?_
                  refine lv_icmp_ne (tgt := 32) hx hb dX2_addNumber_15 (by decide) (fun c_15_10 => ?_) (fun c_15_10 => ?_)
                  · have t_15_10 := c_15_10
                    try simp only [kb_eq0, kb_ne0, lg_cmp_lt, lg_cmp_le, lg_cmp_gt, lg_cmp_ge, lg_cmp_eq] at t_15_10
                    try simp only [Int32.lt_iff_toInt_lt, Int32.le_iff_toInt_le, ← Int32.toInt_inj, Int64.lt_iff_toInt_lt, Int64.le_iff_toInt_le, ← Int64.toInt_inj, Int32.toInt_toInt64, Int32.reduceToInt, Int64.reduceToInt] at t_15_10
                    refine lv_iload_n hx hb dX2_addNumber_32 rfl (lv_at hl 0 rfl) ?_
                    refine lv_bipush (v := 10) hx hb dX2_addNumber_33 (by decide) ?_
                    refine lv_idiv hx hb dX2_addNumber_35 (by decide) ?_
                    refine lv_topi (fun x_12 ex_12 => ?_)
                    obtain rfl : x_12 = 1 := ex_12.trans (by decide)
                    refine lv_istore_n (lv' := [(2, .int 1), (0, .ref aW), (1, .int 0)]) hx hb dX2_addNumber_36 rfl hl (by decide) rfl (fun ls hl => ?_)
                    refine lv_goto (tgt := 4) hx hb dX2_addNumber_37 (by decide) ?_
                    refine lv_iload_n hx hb dX2_addNumber_4 rfl (lv_at hl 0 rfl) ?_
                    refine lv_if_le (tgt := 40) hx hb dX2_addNumber_5 (by decide) (fun c_5_12 => ?_) (fun c_5_12 => ?_)
                    · exact absurd c_5_12 (by decide)
                    · have t_5_12 := c_5_12
                      try simp only [kb_eq0, kb_ne0, lg_cmp_lt, lg_cmp_le, lg_cmp_gt, lg_cmp_ge, lg_cmp_eq] at t_5_12
                      try simp only [Int32.lt_iff_toInt_lt, Int32.le_iff_toInt_le, ← Int32.toInt_inj, Int64.lt_iff_toInt_lt, Int64.le_iff_toInt_le, ← Int64.toInt_inj, Int32.toInt_toInt64, Int32.reduceToInt, Int64.reduceToInt] at t_5_12
                      refine lv_iload_n hx hb dX2_addNumber_8 rfl (lv_at hl 2 rfl) ?_
                      refine lv_iload_n hx hb dX2_addNumber_9 rfl (lv_at hl 0 rfl) ?_
                      refine lv_icmp_ge (tgt := 18) hx hb dX2_addNumber_10 (by decide) (fun c_10_13 => ?_) (fun c_10_13 => ?_)
                      · exact absurd c_10_13 (by decide)
                      · have t_10_13 := c_10_13
                        try simp only [kb_eq0, kb_ne0, lg_cmp_lt, lg_cmp_le, lg_cmp_gt, lg_cmp_ge, lg_cmp_eq] at t_10_13
                        try simp only [Int32.lt_iff_toInt_lt, Int32.le_iff_toInt_le, ← Int32.toInt_inj, Int64.lt_iff_toInt_lt, Int64.le_iff_toInt_le, ← Int64.toInt_inj, Int32.toInt_toInt64, Int32.reduceToInt, Int64.reduceToInt] at t_10_13
                        refine lv_iload_n hx hb dX2_addNumber_13 rfl (lv_at hl 0 rfl) ?_
                        refine lv_iconst (v := 1) hx hb dX2_addNumber_14 (by decide) ?_
                        refine lv_icmp_ne (tgt := 32) hx hb dX2_addNumber_15 (by decide) (fun c_15_14 => ?_) (fun c_15_14 => ?_)
                        · exact absurd (by decide) c_15_14
                        · have t_15_14 := c_15_14
                          try simp only [kb_eq0, kb_ne0, lg_cmp_lt, lg_cmp_le, lg_cmp_gt, lg_cmp_ge, lg_cmp_eq] at t_15_14
                          try simp only [Int32.lt_iff_toInt_lt, Int32.le_iff_toInt_le, ← Int32.toInt_inj, Int64.lt_iff_toInt_lt, Int64.le_iff_toInt_le, ← Int64.toInt_inj, Int32.toInt_toInt64, Int32.reduceToInt, Int64.reduceToInt] at t_15_14
                          refine lv_aload_n hx hb dX2_addNumber_18 rfl (lv_at hl 1 rfl) ?_
                          refine lv_bipush (v := 48) hx hb dX2_addNumber_19 (by decide) ?_
                          refine lv_iload_n hx hb dX2_addNumber_21 rfl (lv_at hl 2 rfl) ?_
                          refine lv_iload_n hx hb dX2_addNumber_22 rfl (lv_at hl 0 rfl) ?_
                          refine lv_idiv hx hb dX2_addNumber_23 (by decide) ?_
                          refine lv_topi (fun x_16 ex_16 => ?_)
                          obtain rfl : x_16 = 0 := ex_16.trans (by decide)
                          refine lv_bipush (v := 10) hx hb dX2_addNumber_24 (by decide) ?_
                          refine lv_irem hx hb dX2_addNumber_26 (by decide) ?_
                          refine lv_topi (fun x_17 ex_17 => ?_)
                          obtain rfl : x_17 = 0 := ex_17.trans (by decide)
                          refine lv_iadd hx hb dX2_addNumber_27 ?_
                          refine lv_topi (fun x_18 ex_18 => ?_)
                          obtain rfl : x_18 = 48 := ex_18.trans (by decide)
                          refine lv_i2c hx hb dX2_addNumber_28 rfl ?_
                          refine lv_topi (fun x_19 ex_19 => ?_)
                          obtain rfl : x_19 = 48 := ex_19.trans (by decide)
                          refine kCallVd (wr := []) (va_runV (As := [.int 48]) (rest := []) ⟨hx, hb, hml, hown, hts⟩ (c_addByte_6 l D cI cL cB cZ cT _ aW bW fw 48) (cwV 1 hts gX2_addNumber_X2_addByte rfl rfl rfl (by decide +kernel) ⟨Nat.le_of_ble_eq_true rfl, Nat.le_of_ble_eq_true rfl⟩) (kPreV hG hP hD [0, 1] rfl (by decide) 0 2 rfl rfl rfl) rfl rfl hl.1 rfl (lv_room (Nat.le_of_ble_eq_true rfl)) dX2_addNumber_29 ⟨Nat.le_of_ble_eq_true rfl, Nat.le_of_ble_eq_true rfl⟩) hA hP hD hS [0, 1] [] rfl rfl (by decide) (by decide) (fun _ u_r_20 H locs wr_20 hP hD hS => ?_)
                          have hP : va_P D vwCl [(aW, .inr (2, [.ref bW, .int 7])), (bW, .inl (cB, 11, .inl (upd fw (6 : Int32).toNatClampNeg (vp_nar .byte (48 : Int32).toInt8.toInt32))))] H := hP
                          have hD : va_D A [(aW, .inr (2, [.ref bW, .int 7])), (bW, .inl (cB, 11, .inl (upd fw (6 : Int32).toNatClampNeg (vp_nar .byte (48 : Int32).toInt8.toInt32))))] := hD
                          try dsimp only at wr_20
                          refine lv_iload_n hx hb dX2_addNumber_32 rfl (lv_at hl 0 rfl) ?_
                          refine lv_bipush (v := 10) hx hb dX2_addNumber_33 (by decide) ?_
                          refine lv_idiv hx hb dX2_addNumber_35 (by decide) ?_
                          refine lv_topi (fun x_21 ex_21 => ?_)
                          obtain rfl : x_21 = 0 := ex_21.trans (by decide)
                          refine lv_istore_n (lv' := [(2, .int 0), (0, .ref aW), (1, .int 0)]) hx hb dX2_addNumber_36 rfl hl (by decide) rfl (fun ls hl => ?_)
                          refine lv_goto (tgt := 4) hx hb dX2_addNumber_37 (by decide) ?_
                          refine lv_iload_n hx hb dX2_addNumber_4 rfl (lv_at hl 0 rfl) ?_
                          refine lv_if_le (tgt := 40) hx hb dX2_addNumber_5 (by decide) (fun c_5_21 => ?_) (fun c_5_21 => ?_)
                          · have t_5_21 := c_5_21
                            try simp only [kb_eq0, kb_ne0, lg_cmp_lt, lg_cmp_le, lg_cmp_gt, lg_cmp_ge, lg_cmp_eq] at t_5_21
                            try simp only [Int32.lt_iff_toInt_lt, Int32.le_iff_toInt_le, ← Int32.toInt_inj, Int64.lt_iff_toInt_lt, Int64.le_iff_toInt_le, ← Int64.toInt_inj, Int32.toInt_toInt64, Int32.reduceToInt, Int64.reduceToInt] at t_5_21
                            refine kVret (u := ()) hx hb hr hlocks hS dX2_addNumber_40 ?_ (hP.sub [0, 1] rfl) (hD.sub [0, 1] (by decide) rfl)
                            exact trivial
                          · exact absurd (by decide) c_5_21
                  · exact absurd c_15_10 (by decide)
            · exact absurd c_15_6 (by decide)
      · exact absurd c_15_2 (by decide)
set_option maxRecDepth 100000 in
set_option maxHeartbeats 4000000 in
theorem c_addZ_7 (l : Launch) (D : va_G) (cI cL cB cZ cT : ClassId) (sz : Nat) (aW bW : Nat) (fw : Nat → Int32) : kM (S := Unit) l yX2_addNumber wsX2_addNumber ({ frames := 1, cells := 0, slots := 0, locals := 21 }) D (kT cI cL cB cZ cT) [.ref aW, .int 0] [(aW, .inr (2, [.ref bW, .int 7])), (bW, .inl (cB, 11, .inl fw))] sz eV (fun _ _ => True) (fun _ => [(aW, .inr (2, [.ref bW, .int 8])), (bW, .inl (cB, 11, .inl (upd fw (7 : Int32).toNatClampNeg (vp_nar .byte (48 : Int32).toInt8.toInt32))))]) 0 0 := by
  refine kStart (cc := cX2_addNumber) (maxL := 3) (ret := none) (own := RX2) (by decide) rfl rfl (Nat.le_of_ble_eq_true rfl) ?_
  intro p e s m args below meth c A ls hx hb hr hml hown hts hlocks hnm hsz hA hG hP hD hS hl
  have hK := hG.1
  have hl : lv_has ls 3 [(0, .ref aW), (1, .int 0)] := hl
  refine lv_sipush (v := 1000) hx hb dX2_addNumber_0 (by decide) ?_
  refine lv_istore_n (lv' := [(2, .int 1000), (0, .ref aW), (1, .int 0)]) hx hb dX2_addNumber_3 rfl hl (by decide) rfl (fun ls hl => ?_)
  refine lv_iload_n hx hb dX2_addNumber_4 rfl (lv_at hl 0 rfl) ?_
  refine lv_if_le (tgt := 40) hx hb dX2_addNumber_5 (by decide) (fun c_5_0 => ?_) (fun c_5_0 => ?_)
  · exact absurd c_5_0 (by decide)
  · have t_5_0 := c_5_0
    try simp only [kb_eq0, kb_ne0, lg_cmp_lt, lg_cmp_le, lg_cmp_gt, lg_cmp_ge, lg_cmp_eq] at t_5_0
    try simp only [Int32.lt_iff_toInt_lt, Int32.le_iff_toInt_le, ← Int32.toInt_inj, Int64.lt_iff_toInt_lt, Int64.le_iff_toInt_le, ← Int64.toInt_inj, Int32.toInt_toInt64, Int32.reduceToInt, Int64.reduceToInt] at t_5_0
    refine lv_iload_n hx hb dX2_addNumber_8 rfl (lv_at hl 2 rfl) ?_
    refine lv_iload_n hx hb dX2_addNumber_9 rfl (lv_at hl 0 rfl) ?_
    refine lv_icmp_ge (tgt := 18) hx hb dX2_addNumber_10 (by decide) (fun c_10_1 => ?_) (fun c_10_1 => ?_)
    · exact absurd c_10_1 (by decide)
    · have t_10_1 := c_10_1
      try simp only [kb_eq0, kb_ne0, lg_cmp_lt, lg_cmp_le, lg_cmp_gt, lg_cmp_ge, lg_cmp_eq] at t_10_1
      try simp only [Int32.lt_iff_toInt_lt, Int32.le_iff_toInt_le, ← Int32.toInt_inj, Int64.lt_iff_toInt_lt, Int64.le_iff_toInt_le, ← Int64.toInt_inj, Int32.toInt_toInt64, Int32.reduceToInt, Int64.reduceToInt] at t_10_1
      refine lv_iload_n hx hb dX2_addNumber_13 rfl (lv_at hl 0 rfl) ?_
      refine lv_iconst (v := 1) hx hb dX2_addNumber_14 (by decide) ?_
      refine lv_icmp_ne (tgt := 32) hx hb dX2_addNumber_15 (by decide) (fun c_15_2 => ?_) (fun c_15_2 => ?_)
      · have t_15_2 := c_15_2
        try simp only [kb_eq0, kb_ne0, lg_cmp_lt, lg_cmp_le, lg_cmp_gt, lg_cmp_ge, lg_cmp_eq] at t_15_2
        try simp only [Int32.lt_iff_toInt_lt, Int32.le_iff_toInt_le, ← Int32.toInt_inj, Int64.lt_iff_toInt_lt, Int64.le_iff_toInt_le, ← Int64.toInt_inj, Int32.toInt_toInt64, Int32.reduceToInt, Int64.reduceToInt] at t_15_2
        refine lv_iload_n hx hb dX2_addNumber_32 rfl (lv_at hl 0 rfl) ?_
        refine lv_bipush (v := 10) hx hb dX2_addNumber_33 (by decide) ?_
        refine lv_idiv hx hb dX2_addNumber_35 (by decide) ?_
        refine lv_topi (fun x_4 ex_4 => ?_)
        obtain rfl : x_4 = 100 := ex_4.trans (by decide)
        refine lv_istore_n (lv' := [(2, .int 100), (0, .ref aW), (1, .int 0)]) hx hb dX2_addNumber_36 rfl hl (by decide) rfl (fun ls hl => ?_)
        refine lv_goto (tgt := 4) hx hb dX2_addNumber_37 (by decide) ?_
        refine lv_iload_n hx hb dX2_addNumber_4 rfl (lv_at hl 0 rfl) ?_
        refine lv_if_le (tgt := 40) hx hb dX2_addNumber_5 (by decide) (fun c_5_4 => ?_) (fun c_5_4 => ?_)
        · exact absurd c_5_4 (by decide)
        · have t_5_4 := c_5_4
          try simp only [kb_eq0, kb_ne0, lg_cmp_lt, lg_cmp_le, lg_cmp_gt, lg_cmp_ge, lg_cmp_eq] at t_5_4
          try simp only [Int32.lt_iff_toInt_lt, Int32.le_iff_toInt_le, ← Int32.toInt_inj, Int64.lt_iff_toInt_lt, Int64.le_iff_toInt_le, ← Int64.toInt_inj, Int32.toInt_toInt64, Int32.reduceToInt, Int64.reduceToInt] at t_5_4
          refine lv_iload_n hx hb dX2_addNumber_8 rfl (lv_at hl 2 rfl) ?_
          refine lv_iload_n hx hb dX2_addNumber_9 rfl (lv_at hl 0 rfl) ?_
          refine lv_icmp_ge (tgt := 18) hx hb dX2_addNumber_10 (by decide) (fun c_10_5 => ?_) (fun c_10_5 => ?_)
          · exact absurd c_10_5 (by decide)
          · have t_10_5 := c_10_5
            try simp only [kb_eq0, kb_ne0, lg_cmp_lt, lg_cmp_le, lg_cmp_gt, lg_cmp_ge, lg_cmp_eq] at t_10_5
            try simp only [Int32.lt_iff_toInt_lt, Int32.le_iff_toInt_le, ← Int32.toInt_inj, Int64.lt_iff_toInt_lt, Int64.le_iff_toInt_le, ← Int64.toInt_inj, Int32.toInt_toInt64, Int32.reduceToInt, Int64.reduceToInt] at t_10_5
            refine lv_iload_n hx hb dX2_addNumber_13 rfl (lv_at hl 0 rfl) ?_
            refine lv_iconst (v := 1) hx hb dX2_addNumber_14 (by decide) ?_
            refine lv_icmp_ne (tgt := 32) hx hb dX2_addNumber_15 (by decide) (fun c_15_6 => ?_) (fun c_15_6 => ?_)
            · have t_15_6 := c_15_6
              try simp only [kb_eq0, kb_ne0, lg_cmp_lt, lg_cmp_le, lg_cmp_gt, lg_cmp_ge, lg_cmp_eq] at t_15_6
              try simp only [Int32.lt_iff_toInt_lt, Int32.le_iff_toInt_le, ← Int32.toInt_inj, Int64.lt_iff_toInt_lt, Int64.le_iff_toInt_le, ← Int64.toInt_inj, Int32.toInt_toInt64, Int32.reduceToInt, Int64.reduceToInt] at t_15_6
              refine lv_iload_n hx hb dX2_addNumber_32 rfl (lv_at hl 0 rfl) ?_
              refine lv_bipush (v := 10) hx hb dX2_addNumber_33 (by decide) ?_
              refine lv_idiv hx hb dX2_addNumber_35 (by decide) ?_
              refine lv_topi (fun x_8 ex_8 => ?_)
              obtain rfl : x_8 = 10 := ex_8.trans (by decide)
              refine lv_istore_n (lv' := [(2, .int 10), (0, .ref aW), (1, .int 0)]) hx hb dX2_addNumber_36 rfl hl (by decide) rfl (fun ls hl => ?_)
              refine lv_goto (tgt := 4) hx hb dX2_addNumber_37 (by decide) ?_
              refine lv_iload_n hx hb dX2_addNumber_4 rfl (lv_at hl 0 rfl) ?_
              refine lv_if_le (tgt := 40) hx hb dX2_addNumber_5 (by decide) (fun c_5_8 => ?_) (fun c_5_8 => ?_)
              · exact absurd c_5_8 (by decide)
              · have t_5_8 := c_5_8
                try simp only [kb_eq0, kb_ne0, lg_cmp_lt, lg_cmp_le, lg_cmp_gt, lg_cmp_ge, lg_cmp_eq] at t_5_8
                try simp only [Int32.lt_iff_toInt_lt, Int32.le_iff_toInt_le, ← Int32.toInt_inj, Int64.lt_iff_toInt_lt, Int64.le_iff_toInt_le, ← Int64.toInt_inj, Int32.toInt_toInt64, Int32.reduceToInt, Int64.reduceToInt] at t_5_8
                refine lv_iload_n hx hb dX2_addNumber_8 rfl (lv_at hl 2 rfl) ?_
                refine lv_iload_n hx hb dX2_addNumber_9 rfl (lv_at hl 0 rfl) ?_
                refine lv_icmp_ge (tgt := 18) hx hb dX2_addNumber_10 (by decide) (fun c_10_9 => ?_) (fun c_10_9 => ?_)
                · exact absurd c_10_9 (by decide)
                · have t_10_9 := c_10_9
                  try simp only [kb_eq0, kb_ne0, lg_cmp_lt, lg_cmp_le, lg_cmp_gt, lg_cmp_ge, lg_cmp_eq] at t_10_9
                  try simp only [Int32.lt_iff_toInt_lt, Int32.le_iff_toInt_le, ← Int32.toInt_inj, Int64.lt_iff_toInt_lt, Int64.le_iff_toInt_le, ← Int64.toInt_inj, Int32.toInt_toInt64, Int32.reduceToInt, Int64.reduceToInt] at t_10_9
                  refine lv_iload_n hx hb dX2_addNumber_13 rfl (lv_at hl 0 rfl) ?_
                  refine lv_iconst (v := 1) hx hb dX2_addNumber_14 (by decide) ?_
                  refine lv_icmp_ne (tgt := 32) hx hb dX2_addNumber_15 (by decide) (fun c_15_10 => ?_) (fun c_15_10 => ?_)
                  · have t_15_10 := c_15_10
                    try simp only [kb_eq0, kb_ne0, lg_cmp_lt, lg_cmp_le, lg_cmp_gt, lg_cmp_ge, lg_cmp_eq] at t_15_10
                    try simp only [Int32.lt_iff_toInt_lt, Int32.le_iff_toInt_le, ← Int32.toInt_inj, Int64.lt_iff_toInt_lt, Int64.le_iff_toInt_le, ← Int64.toInt_inj, Int32.toInt_toInt64, Int32.reduceToInt, Int64.reduceToInt] at t_15_10
                    refine lv_iload_n hx hb dX2_addNumber_32 rfl (lv_at hl 0 rfl) ?_
                    refine lv_bipush (v := 10) hx hb dX2_addNumber_33 (by decide) ?_
                    refine lv_idiv hx hb dX2_addNumber_35 (by decide) ?_
                    refine lv_topi (fun x_12 ex_12 => ?_)
                    obtain rfl : x_12 = 1 := ex_12.trans (by decide)
                    refine lv_istore_n (lv' := [(2, .int 1), (0, .ref aW), (1, .int 0)]) hx hb dX2_addNumber_36 rfl hl (by decide) rfl (fun ls hl => ?_)
                    refine lv_goto (tgt := 4) hx hb dX2_addNumber_37 (by decide) ?_
                    refine lv_iload_n hx hb dX2_addNumber_4 rfl (lv_at hl 0 rfl) ?_
                    refine lv_if_le (tgt := 40) hx hb dX2_addNumber_5 (by decide) (fun c_5_12 => ?_) (fun c_5_12 => ?_)
                    · exact absurd c_5_12 (by decide)
                    · have t_5_12 := c_5_12
                      try simp only [kb_eq0, kb_ne0, lg_cmp_lt, lg_cmp_le, lg_cmp_gt, lg_cmp_ge, lg_cmp_eq] at t_5_12
                      try simp only [Int32.lt_iff_toInt_lt, Int32.le_iff_toInt_le, ← Int32.toInt_inj, Int64.lt_iff_toInt_lt, Int64.le_iff_toInt_le, ← Int64.toInt_inj, Int32.toInt_toInt64, Int32.reduceToInt, Int64.reduceToInt] at t_5_12
                      refine lv_iload_n hx hb dX2_addNumber_8 rfl (lv_at hl 2 rfl) ?_
                      refine lv_iload_n hx hb dX2_addNumber_9 rfl (lv_at hl 0 rfl) ?_
                      refine lv_icmp_ge (tgt := 18) hx hb dX2_addNumber_10 (by decide) (fun c_10_13 => ?_) (fun c_10_13 => ?_)
                      · exact absurd c_10_13 (by decide)
                      · have t_10_13 := c_10_13
                        try simp only [kb_eq0, kb_ne0, lg_cmp_lt, lg_cmp_le, lg_cmp_gt, lg_cmp_ge, lg_cmp_eq] at t_10_13
                        try simp only [Int32.lt_iff_toInt_lt, Int32.le_iff_toInt_le, ← Int32.toInt_inj, Int64.lt_iff_toInt_lt, Int64.le_iff_toInt_le, ← Int64.toInt_inj, Int32.toInt_toInt64, Int32.reduceToInt, Int64.reduceToInt] at t_10_13
                        refine lv_iload_n hx hb dX2_addNumber_13 rfl (lv_at hl 0 rfl) ?_
                        refine lv_iconst (v := 1) hx hb dX2_addNumber_14 (by decide) ?_
                        refine lv_icmp_ne (tgt := 32) hx hb dX2_addNumber_15 (by decide) (fun c_15_14 => ?_) (fun c_15_14 => ?_)
                        · exact absurd (by decide) c_15_14
                        · have t_15_14 := c_15_14
                          try simp only [kb_eq0, kb_ne0, lg_cmp_lt, lg_cmp_le, lg_cmp_gt, lg_cmp_ge, lg_cmp_eq] at t_15_14
                          try simp only [Int32.lt_iff_toInt_lt, Int32.le_iff_toInt_le, ← Int32.toInt_inj, Int64.lt_iff_toInt_lt, Int64.le_iff_toInt_le, ← Int64.toInt_inj, Int32.toInt_toInt64, Int32.reduceToInt, Int64.reduceToInt] at t_15_14
                          refine lv_aload_n hx hb dX2_addNumber_18 rfl (lv_at hl 1 rfl) ?_
                          refine lv_bipush (v := 48) hx hb dX2_addNumber_19 (by decide) ?_
                          refine lv_iload_n hx hb dX2_addNumber_21 rfl (lv_at hl 2 rfl) ?_
                          refine lv_iload_n hx hb dX2_addNumber_22 rfl (lv_at hl 0 rfl) ?_
                          refine lv_idiv hx hb dX2_addNumber_23 (by decide) ?_
                          refine lv_topi (fun x_16 ex_16 => ?_)
                          obtain rfl : x_16 = 0 := ex_16.trans (by decide)
                          refine lv_bipush (v := 10) hx hb dX2_addNumber_24 (by decide) ?_
                          refine lv_irem hx hb dX2_addNumber_26 (by decide) ?_
                          refine lv_topi (fun x_17 ex_17 => ?_)
                          obtain rfl : x_17 = 0 := ex_17.trans (by decide)
                          refine lv_iadd hx hb dX2_addNumber_27 ?_
                          refine lv_topi (fun x_18 ex_18 => ?_)
                          obtain rfl : x_18 = 48 := ex_18.trans (by decide)
                          refine lv_i2c hx hb dX2_addNumber_28 rfl ?_
                          refine lv_topi (fun x_19 ex_19 => ?_)
                          obtain rfl : x_19 = 48 := ex_19.trans (by decide)
                          refine kCallVd (wr := []) (va_runV (As := [.int 48]) (rest := []) ⟨hx, hb, hml, hown, hts⟩ (c_addByte_7 l D cI cL cB cZ cT _ aW bW fw 48) (cwV 1 hts gX2_addNumber_X2_addByte rfl rfl rfl (by decide +kernel) ⟨Nat.le_of_ble_eq_true rfl, Nat.le_of_ble_eq_true rfl⟩) (kPreV hG hP hD [0, 1] rfl (by decide) 0 2 rfl rfl rfl) rfl rfl hl.1 rfl (lv_room (Nat.le_of_ble_eq_true rfl)) dX2_addNumber_29 ⟨Nat.le_of_ble_eq_true rfl, Nat.le_of_ble_eq_true rfl⟩) hA hP hD hS [0, 1] [] rfl rfl (by decide) (by decide) (fun _ u_r_20 H locs wr_20 hP hD hS => ?_)
                          have hP : va_P D vwCl [(aW, .inr (2, [.ref bW, .int 8])), (bW, .inl (cB, 11, .inl (upd fw (7 : Int32).toNatClampNeg (vp_nar .byte (48 : Int32).toInt8.toInt32))))] H := hP
                          have hD : va_D A [(aW, .inr (2, [.ref bW, .int 8])), (bW, .inl (cB, 11, .inl (upd fw (7 : Int32).toNatClampNeg (vp_nar .byte (48 : Int32).toInt8.toInt32))))] := hD
                          try dsimp only at wr_20
                          refine lv_iload_n hx hb dX2_addNumber_32 rfl (lv_at hl 0 rfl) ?_
                          refine lv_bipush (v := 10) hx hb dX2_addNumber_33 (by decide) ?_
                          refine lv_idiv hx hb dX2_addNumber_35 (by decide) ?_
                          refine lv_topi (fun x_21 ex_21 => ?_)
                          obtain rfl : x_21 = 0 := ex_21.trans (by decide)
                          refine lv_istore_n (lv' := [(2, .int 0), (0, .ref aW), (1, .int 0)]) hx hb dX2_addNumber_36 rfl hl (by decide) rfl (fun ls hl => ?_)
                          refine lv_goto (tgt := 4) hx hb dX2_addNumber_37 (by decide) ?_
                          refine lv_iload_n hx hb dX2_addNumber_4 rfl (lv_at hl 0 rfl) ?_
                          refine lv_if_le (tgt := 40) hx hb dX2_addNumber_5 (by decide) (fun c_5_21 => ?_) (fun c_5_21 => ?_)
                          · have t_5_21 := c_5_21
                            try simp only [kb_eq0, kb_ne0, lg_cmp_lt, lg_cmp_le, lg_cmp_gt, lg_cmp_ge, lg_cmp_eq] at t_5_21
                            try simp only [Int32.lt_iff_toInt_lt, Int32.le_iff_toInt_le, ← Int32.toInt_inj, Int64.lt_iff_toInt_lt, Int64.le_iff_toInt_le, ← Int64.toInt_inj, Int32.toInt_toInt64, Int32.reduceToInt, Int64.reduceToInt] at t_5_21
                            refine kVret (u := ()) hx hb hr hlocks hS dX2_addNumber_40 ?_ (hP.sub [0, 1] rfl) (hD.sub [0, 1] (by decide) rfl)
                            exact trivial
                          · exact absurd (by decide) c_5_21
                  · exact absurd c_15_10 (by decide)
            · exact absurd c_15_6 (by decide)
      · exact absurd c_15_2 (by decide)
def kLn (n : Int32) : Int32 := if n.toInt < 10 then 5 else if n.toInt < 100 then 6 else 7
def kRw (n : Int32) : Nat → Int32 := if n.toInt < 10 then (upd (upd (upd (upd (upd (fun _ => 0) (0 : Int32).toNatClampNeg (vp_nar .byte ((48 + ((n / 1) - (n / 1) / 10 * 10)).toUInt32 % 65536).toInt32.toInt8.toInt32)) (1 : Int32).toNatClampNeg (vp_nar .byte (32 : Int32).toInt8.toInt32)) (2 : Int32).toNatClampNeg (vp_nar .byte (48 : Int32).toInt8.toInt32)) (3 : Int32).toNatClampNeg (vp_nar .byte (43 : Int32).toInt8.toInt32)) (4 : Int32).toNatClampNeg (vp_nar .byte (48 : Int32).toInt8.toInt32)) else if n.toInt < 100 then (upd (upd (upd (upd (upd (upd (fun _ => 0) (0 : Int32).toNatClampNeg (vp_nar .byte ((48 + ((n / 10) - (n / 10) / 10 * 10)).toUInt32 % 65536).toInt32.toInt8.toInt32)) (1 : Int32).toNatClampNeg (vp_nar .byte ((48 + ((n / 1) - (n / 1) / 10 * 10)).toUInt32 % 65536).toInt32.toInt8.toInt32)) (2 : Int32).toNatClampNeg (vp_nar .byte (32 : Int32).toInt8.toInt32)) (3 : Int32).toNatClampNeg (vp_nar .byte (48 : Int32).toInt8.toInt32)) (4 : Int32).toNatClampNeg (vp_nar .byte (43 : Int32).toInt8.toInt32)) (5 : Int32).toNatClampNeg (vp_nar .byte (48 : Int32).toInt8.toInt32)) else (upd (upd (upd (upd (upd (upd (upd (fun _ => 0) (0 : Int32).toNatClampNeg (vp_nar .byte ((48 + ((n / 100) - (n / 100) / 10 * 10)).toUInt32 % 65536).toInt32.toInt8.toInt32)) (1 : Int32).toNatClampNeg (vp_nar .byte ((48 + ((n / 10) - (n / 10) / 10 * 10)).toUInt32 % 65536).toInt32.toInt8.toInt32)) (2 : Int32).toNatClampNeg (vp_nar .byte ((48 + ((n / 1) - (n / 1) / 10 * 10)).toUInt32 % 65536).toInt32.toInt8.toInt32)) (3 : Int32).toNatClampNeg (vp_nar .byte (32 : Int32).toInt8.toInt32)) (4 : Int32).toNatClampNeg (vp_nar .byte (48 : Int32).toInt8.toInt32)) (5 : Int32).toNatClampNeg (vp_nar .byte (43 : Int32).toInt8.toInt32)) (6 : Int32).toNatClampNeg (vp_nar .byte (48 : Int32).toInt8.toInt32))
theorem kLn_1 {n : Int32} (h : n.toInt < 10) : kLn n = 5 := if_pos h
theorem kLn_2 {n : Int32} (h : ¬ n.toInt < 10) (h2 : n.toInt < 100) : kLn n = 6 := (if_neg h).trans (if_pos h2)
theorem kLn_3 {n : Int32} (h : ¬ n.toInt < 10) (h2 : ¬ n.toInt < 100) : kLn n = 7 := (if_neg h).trans (if_neg h2)
theorem kRw_1 {n : Int32} (h : n.toInt < 10) : kRw n = (upd (upd (upd (upd (upd (fun _ => 0) (0 : Int32).toNatClampNeg (vp_nar .byte ((48 + ((n / 1) - (n / 1) / 10 * 10)).toUInt32 % 65536).toInt32.toInt8.toInt32)) (1 : Int32).toNatClampNeg (vp_nar .byte (32 : Int32).toInt8.toInt32)) (2 : Int32).toNatClampNeg (vp_nar .byte (48 : Int32).toInt8.toInt32)) (3 : Int32).toNatClampNeg (vp_nar .byte (43 : Int32).toInt8.toInt32)) (4 : Int32).toNatClampNeg (vp_nar .byte (48 : Int32).toInt8.toInt32)) := if_pos h
theorem kRw_2 {n : Int32} (h : ¬ n.toInt < 10) (h2 : n.toInt < 100) : kRw n = (upd (upd (upd (upd (upd (upd (fun _ => 0) (0 : Int32).toNatClampNeg (vp_nar .byte ((48 + ((n / 10) - (n / 10) / 10 * 10)).toUInt32 % 65536).toInt32.toInt8.toInt32)) (1 : Int32).toNatClampNeg (vp_nar .byte ((48 + ((n / 1) - (n / 1) / 10 * 10)).toUInt32 % 65536).toInt32.toInt8.toInt32)) (2 : Int32).toNatClampNeg (vp_nar .byte (32 : Int32).toInt8.toInt32)) (3 : Int32).toNatClampNeg (vp_nar .byte (48 : Int32).toInt8.toInt32)) (4 : Int32).toNatClampNeg (vp_nar .byte (43 : Int32).toInt8.toInt32)) (5 : Int32).toNatClampNeg (vp_nar .byte (48 : Int32).toInt8.toInt32)) := (if_neg h).trans (if_pos h2)
theorem kRw_3 {n : Int32} (h : ¬ n.toInt < 10) (h2 : ¬ n.toInt < 100) : kRw n = (upd (upd (upd (upd (upd (upd (upd (fun _ => 0) (0 : Int32).toNatClampNeg (vp_nar .byte ((48 + ((n / 100) - (n / 100) / 10 * 10)).toUInt32 % 65536).toInt32.toInt8.toInt32)) (1 : Int32).toNatClampNeg (vp_nar .byte ((48 + ((n / 10) - (n / 10) / 10 * 10)).toUInt32 % 65536).toInt32.toInt8.toInt32)) (2 : Int32).toNatClampNeg (vp_nar .byte ((48 + ((n / 1) - (n / 1) / 10 * 10)).toUInt32 % 65536).toInt32.toInt8.toInt32)) (3 : Int32).toNatClampNeg (vp_nar .byte (32 : Int32).toInt8.toInt32)) (4 : Int32).toNatClampNeg (vp_nar .byte (48 : Int32).toInt8.toInt32)) (5 : Int32).toNatClampNeg (vp_nar .byte (43 : Int32).toInt8.toInt32)) (6 : Int32).toNatClampNeg (vp_nar .byte (48 : Int32).toInt8.toInt32)) := (if_neg h).trans (if_neg h2)
set_option maxRecDepth 100000 in
theorem iX2_writeAct_X2 : ∀ w ∈ wsX20, w ∈ wsX2_writeAct := fun w h => (goodIn_r (big := wsX2_writeAct) wsX20 [12, 13] rfl (by decide +kernel) w h).1
set_option maxRecDepth 100000 in
set_option maxHeartbeats 4000000 in
theorem c_writeAct (l : Launch) (D : va_G) (cI cL cB cZ cT : ClassId) (sz : Nat) (aW bW : Nat) (wl n : Int32) (hn : 0 ≤ n.toInt ∧ n.toInt ≤ 511) : kM (S := Unit) l yX2_writeAct wsX2_writeAct ({ frames := 2, cells := 0, slots := 0, locals := 43 }) D (kT cI cL cB cZ cT) [.ref aW, .int n, .int 0] [(aW, .inr (2, [.ref bW, .int wl])), (bW, .inl (cB, 11, .inl (fun _ => 0)))] sz eV (fun _ _ => True) (fun _ => [(aW, .inr (2, [.ref bW, .int (kLn n)])), (bW, .inl (cB, 11, .inl (kRw n)))]) 0 0 := by
  refine kStart (cc := cX2_writeAct) (maxL := 3) (ret := none) (own := RX2) (by decide) rfl rfl (Nat.le_of_ble_eq_true rfl) ?_
  intro p e s m args below meth c A ls hx hb hr hml hown hts hlocks hnm hsz hA hG hP hD hS hl
  have hK := hG.1
  have hl : lv_has ls 3 [(0, .ref aW), (1, .int n), (2, .int 0)] := hl
  by_cases hdA : n.toInt < 10
  · have hE1 := kLn_1 (n := n) hdA
    have hE2 := kRw_1 (n := n) hdA
    refine lv_aload_n hx hb dX2_writeAct_0 rfl (lv_at hl 0 rfl) ?_
    refine lv_iconst (v := 0) hx hb dX2_writeAct_1 (by decide) ?_
    refine va_put (D := D) (ci := 2) (v := .int 0) (ty := .int) (C := RX2) (T := TX2) (N := 2) hx hb hts iX2_writeAct_X2 tyX2 tyX2_ok nmX2 hown hK hP hD hS 0 rfl rfl 1 (by decide) (hts (.fieldLink RX2 15 "TapeCalculator$LineWriter" "length" "I") (List.mem_of_getElem? (i := 1) rfl)) (fun _ h9 => h9) rfl (by decide +kernel) rfl rfl (Nat.le_of_ble_eq_true rfl) dX2_writeAct_2 (fun H locs hP hD hS => ?_)
    have hP : va_P D vwCl [(aW, .inr (2, [.ref bW, .int 0])), (bW, .inl (cB, 11, .inl (fun _ => 0)))] H := hP
    have hD : va_D A [(aW, .inr (2, [.ref bW, .int 0])), (bW, .inl (cB, 11, .inl (fun _ => 0)))] := hD
    refine lv_aload_n hx hb dX2_writeAct_5 rfl (lv_at hl 0 rfl) ?_
    refine lv_iload_n hx hb dX2_writeAct_6 rfl (lv_at hl 1 rfl) ?_
    refine kCallVd (wr := []) (va_runV (As := [.int n]) (rest := []) ⟨hx, hb, hml, hown, hts⟩ (c_addN_1 l D cI cL cB cZ cT _ aW bW (fun _ => 0) n ⟨by omega, by omega⟩) (cwV 1 hts gX2_writeAct_X2_addNumber rfl rfl rfl (by decide +kernel) ⟨Nat.le_of_ble_eq_true rfl, Nat.le_of_ble_eq_true rfl⟩) (kPreV hG hP hD [0, 1] rfl (by decide) 0 2 rfl rfl rfl) rfl rfl hl.1 rfl (lv_room (Nat.le_of_ble_eq_true rfl)) dX2_writeAct_7 ⟨Nat.le_of_ble_eq_true rfl, Nat.le_of_ble_eq_true rfl⟩) hA hP hD hS [0, 1] [] rfl rfl (by decide) (by decide) (fun _ u_r_1 H locs wr_1 hP hD hS => ?_)
    have hP : va_P D vwCl [(aW, .inr (2, [.ref bW, .int 1])), (bW, .inl (cB, 11, .inl (upd (fun _ => 0) (0 : Int32).toNatClampNeg (vp_nar .byte ((48 + ((n / 1) - (n / 1) / 10 * 10)).toUInt32 % 65536).toInt32.toInt8.toInt32))))] H := hP
    have hD : va_D A [(aW, .inr (2, [.ref bW, .int 1])), (bW, .inl (cB, 11, .inl (upd (fun _ => 0) (0 : Int32).toNatClampNeg (vp_nar .byte ((48 + ((n / 1) - (n / 1) / 10 * 10)).toUInt32 % 65536).toInt32.toInt8.toInt32))))] := hD
    try dsimp only at wr_1
    refine lv_aload_n hx hb dX2_writeAct_10 rfl (lv_at hl 0 rfl) ?_
    refine lv_bipush (v := 32) hx hb dX2_writeAct_11 (by decide) ?_
    refine kCallVd (wr := []) (va_runV (As := [.int 32]) (rest := []) ⟨hx, hb, hml, hown, hts⟩ (c_addByte_1 l D cI cL cB cZ cT _ aW bW (upd (fun _ => 0) (0 : Int32).toNatClampNeg (vp_nar .byte ((48 + ((n / 1) - (n / 1) / 10 * 10)).toUInt32 % 65536).toInt32.toInt8.toInt32)) 32) (cwV 1 hts gX2_writeAct_X2_addByte rfl rfl rfl (by decide +kernel) ⟨Nat.le_of_ble_eq_true rfl, Nat.le_of_ble_eq_true rfl⟩) (kPreV hG hP hD [0, 1] rfl (by decide) 0 2 rfl rfl rfl) rfl rfl hl.1 rfl (lv_room (Nat.le_of_ble_eq_true rfl)) dX2_writeAct_13 ⟨Nat.le_of_ble_eq_true rfl, Nat.le_of_ble_eq_true rfl⟩) hA hP hD hS [0, 1] [] rfl rfl (by decide) (by decide) (fun _ u_r_2 H locs wr_2 hP hD hS => ?_)
    have hP : va_P D vwCl [(aW, .inr (2, [.ref bW, .int 2])), (bW, .inl (cB, 11, .inl (upd (upd (fun _ => 0) (0 : Int32).toNatClampNeg (vp_nar .byte ((48 + ((n / 1) - (n / 1) / 10 * 10)).toUInt32 % 65536).toInt32.toInt8.toInt32)) (1 : Int32).toNatClampNeg (vp_nar .byte (32 : Int32).toInt8.toInt32))))] H := hP
    have hD : va_D A [(aW, .inr (2, [.ref bW, .int 2])), (bW, .inl (cB, 11, .inl (upd (upd (fun _ => 0) (0 : Int32).toNatClampNeg (vp_nar .byte ((48 + ((n / 1) - (n / 1) / 10 * 10)).toUInt32 % 65536).toInt32.toInt8.toInt32)) (1 : Int32).toNatClampNeg (vp_nar .byte (32 : Int32).toInt8.toInt32))))] := hD
    try dsimp only at wr_2
    refine lv_aload_n hx hb dX2_writeAct_16 rfl (lv_at hl 0 rfl) ?_
    refine lv_iload_n hx hb dX2_writeAct_17 rfl (lv_at hl 2 rfl) ?_
    refine lv_bipush (v := 12) hx hb dX2_writeAct_18 (by decide) ?_
    refine lv_ishr hx hb dX2_writeAct_20 ?_
    refine lv_topi (fun x_3 ex_3 => ?_)
    obtain rfl : x_3 = 0 := ex_3.trans (by decide)
    refine lv_bipush (v := 31) hx hb dX2_writeAct_21 (by decide) ?_
    refine lv_iand hx hb dX2_writeAct_23 ?_
    refine lv_topi (fun x_4 ex_4 => ?_)
    obtain rfl : x_4 = 0 := ex_4.trans (by decide)
    refine kCallVd (wr := []) (va_runV (As := [.int 0]) (rest := []) ⟨hx, hb, hml, hown, hts⟩ (c_addZ_2 l D cI cL cB cZ cT _ aW bW (upd (upd (fun _ => 0) (0 : Int32).toNatClampNeg (vp_nar .byte ((48 + ((n / 1) - (n / 1) / 10 * 10)).toUInt32 % 65536).toInt32.toInt8.toInt32)) (1 : Int32).toNatClampNeg (vp_nar .byte (32 : Int32).toInt8.toInt32))) (cwV 1 hts gX2_writeAct_X2_addNumber rfl rfl rfl (by decide +kernel) ⟨Nat.le_of_ble_eq_true rfl, Nat.le_of_ble_eq_true rfl⟩) (kPreV hG hP hD [0, 1] rfl (by decide) 0 2 rfl rfl rfl) rfl rfl hl.1 rfl (lv_room (Nat.le_of_ble_eq_true rfl)) dX2_writeAct_24 ⟨Nat.le_of_ble_eq_true rfl, Nat.le_of_ble_eq_true rfl⟩) hA hP hD hS [0, 1] [] rfl rfl (by decide) (by decide) (fun _ u_r_5 H locs wr_5 hP hD hS => ?_)
    have hP : va_P D vwCl [(aW, .inr (2, [.ref bW, .int 3])), (bW, .inl (cB, 11, .inl (upd (upd (upd (fun _ => 0) (0 : Int32).toNatClampNeg (vp_nar .byte ((48 + ((n / 1) - (n / 1) / 10 * 10)).toUInt32 % 65536).toInt32.toInt8.toInt32)) (1 : Int32).toNatClampNeg (vp_nar .byte (32 : Int32).toInt8.toInt32)) (2 : Int32).toNatClampNeg (vp_nar .byte (48 : Int32).toInt8.toInt32))))] H := hP
    have hD : va_D A [(aW, .inr (2, [.ref bW, .int 3])), (bW, .inl (cB, 11, .inl (upd (upd (upd (fun _ => 0) (0 : Int32).toNatClampNeg (vp_nar .byte ((48 + ((n / 1) - (n / 1) / 10 * 10)).toUInt32 % 65536).toInt32.toInt8.toInt32)) (1 : Int32).toNatClampNeg (vp_nar .byte (32 : Int32).toInt8.toInt32)) (2 : Int32).toNatClampNeg (vp_nar .byte (48 : Int32).toInt8.toInt32))))] := hD
    try dsimp only at wr_5
    refine lv_aload_n hx hb dX2_writeAct_27 rfl (lv_at hl 0 rfl) ?_
    refine lv_iload_n hx hb dX2_writeAct_28 rfl (lv_at hl 2 rfl) ?_
    refine lv_bipush (v := 17) hx hb dX2_writeAct_29 (by decide) ?_
    refine lv_ishr hx hb dX2_writeAct_31 ?_
    refine lv_topi (fun x_6 ex_6 => ?_)
    obtain rfl : x_6 = 0 := ex_6.trans (by decide)
    refine lv_if_eq (tgt := 40) hx hb dX2_writeAct_32 (by decide) (fun c_32_6 => ?_) (fun c_32_6 => ?_)
    · have t_32_6 := c_32_6
      try simp only [kb_eq0, kb_ne0, lg_cmp_lt, lg_cmp_le, lg_cmp_gt, lg_cmp_ge, lg_cmp_eq] at t_32_6
      try simp only [Int32.lt_iff_toInt_lt, Int32.le_iff_toInt_le, ← Int32.toInt_inj, Int64.lt_iff_toInt_lt, Int64.le_iff_toInt_le, ← Int64.toInt_inj, Int32.toInt_toInt64, Int32.reduceToInt, Int64.reduceToInt] at t_32_6
      refine lv_bipush (v := 43) hx hb dX2_writeAct_40 (by decide) ?_
      refine kCallVd (wr := []) (va_runV (As := [.int 43]) (rest := []) ⟨hx, hb, hml, hown, hts⟩ (c_addByte_3 l D cI cL cB cZ cT _ aW bW (upd (upd (upd (fun _ => 0) (0 : Int32).toNatClampNeg (vp_nar .byte ((48 + ((n / 1) - (n / 1) / 10 * 10)).toUInt32 % 65536).toInt32.toInt8.toInt32)) (1 : Int32).toNatClampNeg (vp_nar .byte (32 : Int32).toInt8.toInt32)) (2 : Int32).toNatClampNeg (vp_nar .byte (48 : Int32).toInt8.toInt32)) 43) (cwV 1 hts gX2_writeAct_X2_addByte rfl rfl rfl (by decide +kernel) ⟨Nat.le_of_ble_eq_true rfl, Nat.le_of_ble_eq_true rfl⟩) (kPreV hG hP hD [0, 1] rfl (by decide) 0 2 rfl rfl rfl) rfl rfl hl.1 rfl (lv_room (Nat.le_of_ble_eq_true rfl)) dX2_writeAct_42 ⟨Nat.le_of_ble_eq_true rfl, Nat.le_of_ble_eq_true rfl⟩) hA hP hD hS [0, 1] [] rfl rfl (by decide) (by decide) (fun _ u_r_8 H locs wr_8 hP hD hS => ?_)
      have hP : va_P D vwCl [(aW, .inr (2, [.ref bW, .int 4])), (bW, .inl (cB, 11, .inl (upd (upd (upd (upd (fun _ => 0) (0 : Int32).toNatClampNeg (vp_nar .byte ((48 + ((n / 1) - (n / 1) / 10 * 10)).toUInt32 % 65536).toInt32.toInt8.toInt32)) (1 : Int32).toNatClampNeg (vp_nar .byte (32 : Int32).toInt8.toInt32)) (2 : Int32).toNatClampNeg (vp_nar .byte (48 : Int32).toInt8.toInt32)) (3 : Int32).toNatClampNeg (vp_nar .byte (43 : Int32).toInt8.toInt32))))] H := hP
      have hD : va_D A [(aW, .inr (2, [.ref bW, .int 4])), (bW, .inl (cB, 11, .inl (upd (upd (upd (upd (fun _ => 0) (0 : Int32).toNatClampNeg (vp_nar .byte ((48 + ((n / 1) - (n / 1) / 10 * 10)).toUInt32 % 65536).toInt32.toInt8.toInt32)) (1 : Int32).toNatClampNeg (vp_nar .byte (32 : Int32).toInt8.toInt32)) (2 : Int32).toNatClampNeg (vp_nar .byte (48 : Int32).toInt8.toInt32)) (3 : Int32).toNatClampNeg (vp_nar .byte (43 : Int32).toInt8.toInt32))))] := hD
      try dsimp only at wr_8
      refine lv_aload_n hx hb dX2_writeAct_45 rfl (lv_at hl 0 rfl) ?_
      refine lv_iload_n hx hb dX2_writeAct_46 rfl (lv_at hl 2 rfl) ?_
      refine lv_sipush (v := 4095) hx hb dX2_writeAct_47 (by decide) ?_
      refine lv_iand hx hb dX2_writeAct_50 ?_
      refine lv_topi (fun x_9 ex_9 => ?_)
      obtain rfl : x_9 = 0 := ex_9.trans (by decide)
      refine kCallVd (wr := []) (va_runV (As := [.int 0]) (rest := []) ⟨hx, hb, hml, hown, hts⟩ (c_addZ_4 l D cI cL cB cZ cT _ aW bW (upd (upd (upd (upd (fun _ => 0) (0 : Int32).toNatClampNeg (vp_nar .byte ((48 + ((n / 1) - (n / 1) / 10 * 10)).toUInt32 % 65536).toInt32.toInt8.toInt32)) (1 : Int32).toNatClampNeg (vp_nar .byte (32 : Int32).toInt8.toInt32)) (2 : Int32).toNatClampNeg (vp_nar .byte (48 : Int32).toInt8.toInt32)) (3 : Int32).toNatClampNeg (vp_nar .byte (43 : Int32).toInt8.toInt32))) (cwV 1 hts gX2_writeAct_X2_addNumber rfl rfl rfl (by decide +kernel) ⟨Nat.le_of_ble_eq_true rfl, Nat.le_of_ble_eq_true rfl⟩) (kPreV hG hP hD [0, 1] rfl (by decide) 0 2 rfl rfl rfl) rfl rfl hl.1 rfl (lv_room (Nat.le_of_ble_eq_true rfl)) dX2_writeAct_51 ⟨Nat.le_of_ble_eq_true rfl, Nat.le_of_ble_eq_true rfl⟩) hA hP hD hS [0, 1] [] rfl rfl (by decide) (by decide) (fun _ u_r_10 H locs wr_10 hP hD hS => ?_)
      have hP : va_P D vwCl [(aW, .inr (2, [.ref bW, .int 5])), (bW, .inl (cB, 11, .inl (upd (upd (upd (upd (upd (fun _ => 0) (0 : Int32).toNatClampNeg (vp_nar .byte ((48 + ((n / 1) - (n / 1) / 10 * 10)).toUInt32 % 65536).toInt32.toInt8.toInt32)) (1 : Int32).toNatClampNeg (vp_nar .byte (32 : Int32).toInt8.toInt32)) (2 : Int32).toNatClampNeg (vp_nar .byte (48 : Int32).toInt8.toInt32)) (3 : Int32).toNatClampNeg (vp_nar .byte (43 : Int32).toInt8.toInt32)) (4 : Int32).toNatClampNeg (vp_nar .byte (48 : Int32).toInt8.toInt32))))] H := hP
      have hD : va_D A [(aW, .inr (2, [.ref bW, .int 5])), (bW, .inl (cB, 11, .inl (upd (upd (upd (upd (upd (fun _ => 0) (0 : Int32).toNatClampNeg (vp_nar .byte ((48 + ((n / 1) - (n / 1) / 10 * 10)).toUInt32 % 65536).toInt32.toInt8.toInt32)) (1 : Int32).toNatClampNeg (vp_nar .byte (32 : Int32).toInt8.toInt32)) (2 : Int32).toNatClampNeg (vp_nar .byte (48 : Int32).toInt8.toInt32)) (3 : Int32).toNatClampNeg (vp_nar .byte (43 : Int32).toInt8.toInt32)) (4 : Int32).toNatClampNeg (vp_nar .byte (48 : Int32).toInt8.toInt32))))] := hD
      try dsimp only at wr_10
      refine kVret (u := ()) hx hb hr hlocks hS dX2_writeAct_54 ?_ (hP.sub [0, 1] (by rw [hE1, hE2]; rfl)) (hD.sub [0, 1] (by decide) (by rw [hE1, hE2]; rfl))
      exact trivial
    · exact absurd (by decide) c_32_6
  · by_cases hdB : n.toInt < 100
    · have hE1 := kLn_2 (n := n) hdA hdB
      have hE2 := kRw_2 (n := n) hdA hdB
      refine lv_aload_n hx hb dX2_writeAct_0 rfl (lv_at hl 0 rfl) ?_
      refine lv_iconst (v := 0) hx hb dX2_writeAct_1 (by decide) ?_
      refine va_put (D := D) (ci := 2) (v := .int 0) (ty := .int) (C := RX2) (T := TX2) (N := 2) hx hb hts iX2_writeAct_X2 tyX2 tyX2_ok nmX2 hown hK hP hD hS 0 rfl rfl 1 (by decide) (hts (.fieldLink RX2 15 "TapeCalculator$LineWriter" "length" "I") (List.mem_of_getElem? (i := 1) rfl)) (fun _ h9 => h9) rfl (by decide +kernel) rfl rfl (Nat.le_of_ble_eq_true rfl) dX2_writeAct_2 (fun H locs hP hD hS => ?_)
      have hP : va_P D vwCl [(aW, .inr (2, [.ref bW, .int 0])), (bW, .inl (cB, 11, .inl (fun _ => 0)))] H := hP
      have hD : va_D A [(aW, .inr (2, [.ref bW, .int 0])), (bW, .inl (cB, 11, .inl (fun _ => 0)))] := hD
      refine lv_aload_n hx hb dX2_writeAct_5 rfl (lv_at hl 0 rfl) ?_
      refine lv_iload_n hx hb dX2_writeAct_6 rfl (lv_at hl 1 rfl) ?_
      refine kCallVd (wr := []) (va_runV (As := [.int n]) (rest := []) ⟨hx, hb, hml, hown, hts⟩ (c_addN_2 l D cI cL cB cZ cT _ aW bW (fun _ => 0) n ⟨by omega, by omega⟩) (cwV 1 hts gX2_writeAct_X2_addNumber rfl rfl rfl (by decide +kernel) ⟨Nat.le_of_ble_eq_true rfl, Nat.le_of_ble_eq_true rfl⟩) (kPreV hG hP hD [0, 1] rfl (by decide) 0 2 rfl rfl rfl) rfl rfl hl.1 rfl (lv_room (Nat.le_of_ble_eq_true rfl)) dX2_writeAct_7 ⟨Nat.le_of_ble_eq_true rfl, Nat.le_of_ble_eq_true rfl⟩) hA hP hD hS [0, 1] [] rfl rfl (by decide) (by decide) (fun _ u_r_11 H locs wr_11 hP hD hS => ?_)
      have hP : va_P D vwCl [(aW, .inr (2, [.ref bW, .int 2])), (bW, .inl (cB, 11, .inl (upd (upd (fun _ => 0) (0 : Int32).toNatClampNeg (vp_nar .byte ((48 + ((n / 10) - (n / 10) / 10 * 10)).toUInt32 % 65536).toInt32.toInt8.toInt32)) (1 : Int32).toNatClampNeg (vp_nar .byte ((48 + ((n / 1) - (n / 1) / 10 * 10)).toUInt32 % 65536).toInt32.toInt8.toInt32))))] H := hP
      have hD : va_D A [(aW, .inr (2, [.ref bW, .int 2])), (bW, .inl (cB, 11, .inl (upd (upd (fun _ => 0) (0 : Int32).toNatClampNeg (vp_nar .byte ((48 + ((n / 10) - (n / 10) / 10 * 10)).toUInt32 % 65536).toInt32.toInt8.toInt32)) (1 : Int32).toNatClampNeg (vp_nar .byte ((48 + ((n / 1) - (n / 1) / 10 * 10)).toUInt32 % 65536).toInt32.toInt8.toInt32))))] := hD
      try dsimp only at wr_11
      refine lv_aload_n hx hb dX2_writeAct_10 rfl (lv_at hl 0 rfl) ?_
      refine lv_bipush (v := 32) hx hb dX2_writeAct_11 (by decide) ?_
      refine kCallVd (wr := []) (va_runV (As := [.int 32]) (rest := []) ⟨hx, hb, hml, hown, hts⟩ (c_addByte_2 l D cI cL cB cZ cT _ aW bW (upd (upd (fun _ => 0) (0 : Int32).toNatClampNeg (vp_nar .byte ((48 + ((n / 10) - (n / 10) / 10 * 10)).toUInt32 % 65536).toInt32.toInt8.toInt32)) (1 : Int32).toNatClampNeg (vp_nar .byte ((48 + ((n / 1) - (n / 1) / 10 * 10)).toUInt32 % 65536).toInt32.toInt8.toInt32)) 32) (cwV 1 hts gX2_writeAct_X2_addByte rfl rfl rfl (by decide +kernel) ⟨Nat.le_of_ble_eq_true rfl, Nat.le_of_ble_eq_true rfl⟩) (kPreV hG hP hD [0, 1] rfl (by decide) 0 2 rfl rfl rfl) rfl rfl hl.1 rfl (lv_room (Nat.le_of_ble_eq_true rfl)) dX2_writeAct_13 ⟨Nat.le_of_ble_eq_true rfl, Nat.le_of_ble_eq_true rfl⟩) hA hP hD hS [0, 1] [] rfl rfl (by decide) (by decide) (fun _ u_r_12 H locs wr_12 hP hD hS => ?_)
      have hP : va_P D vwCl [(aW, .inr (2, [.ref bW, .int 3])), (bW, .inl (cB, 11, .inl (upd (upd (upd (fun _ => 0) (0 : Int32).toNatClampNeg (vp_nar .byte ((48 + ((n / 10) - (n / 10) / 10 * 10)).toUInt32 % 65536).toInt32.toInt8.toInt32)) (1 : Int32).toNatClampNeg (vp_nar .byte ((48 + ((n / 1) - (n / 1) / 10 * 10)).toUInt32 % 65536).toInt32.toInt8.toInt32)) (2 : Int32).toNatClampNeg (vp_nar .byte (32 : Int32).toInt8.toInt32))))] H := hP
      have hD : va_D A [(aW, .inr (2, [.ref bW, .int 3])), (bW, .inl (cB, 11, .inl (upd (upd (upd (fun _ => 0) (0 : Int32).toNatClampNeg (vp_nar .byte ((48 + ((n / 10) - (n / 10) / 10 * 10)).toUInt32 % 65536).toInt32.toInt8.toInt32)) (1 : Int32).toNatClampNeg (vp_nar .byte ((48 + ((n / 1) - (n / 1) / 10 * 10)).toUInt32 % 65536).toInt32.toInt8.toInt32)) (2 : Int32).toNatClampNeg (vp_nar .byte (32 : Int32).toInt8.toInt32))))] := hD
      try dsimp only at wr_12
      refine lv_aload_n hx hb dX2_writeAct_16 rfl (lv_at hl 0 rfl) ?_
      refine lv_iload_n hx hb dX2_writeAct_17 rfl (lv_at hl 2 rfl) ?_
      refine lv_bipush (v := 12) hx hb dX2_writeAct_18 (by decide) ?_
      refine lv_ishr hx hb dX2_writeAct_20 ?_
      refine lv_topi (fun x_13 ex_13 => ?_)
      obtain rfl : x_13 = 0 := ex_13.trans (by decide)
      refine lv_bipush (v := 31) hx hb dX2_writeAct_21 (by decide) ?_
      refine lv_iand hx hb dX2_writeAct_23 ?_
      refine lv_topi (fun x_14 ex_14 => ?_)
      obtain rfl : x_14 = 0 := ex_14.trans (by decide)
      refine kCallVd (wr := []) (va_runV (As := [.int 0]) (rest := []) ⟨hx, hb, hml, hown, hts⟩ (c_addZ_3 l D cI cL cB cZ cT _ aW bW (upd (upd (upd (fun _ => 0) (0 : Int32).toNatClampNeg (vp_nar .byte ((48 + ((n / 10) - (n / 10) / 10 * 10)).toUInt32 % 65536).toInt32.toInt8.toInt32)) (1 : Int32).toNatClampNeg (vp_nar .byte ((48 + ((n / 1) - (n / 1) / 10 * 10)).toUInt32 % 65536).toInt32.toInt8.toInt32)) (2 : Int32).toNatClampNeg (vp_nar .byte (32 : Int32).toInt8.toInt32))) (cwV 1 hts gX2_writeAct_X2_addNumber rfl rfl rfl (by decide +kernel) ⟨Nat.le_of_ble_eq_true rfl, Nat.le_of_ble_eq_true rfl⟩) (kPreV hG hP hD [0, 1] rfl (by decide) 0 2 rfl rfl rfl) rfl rfl hl.1 rfl (lv_room (Nat.le_of_ble_eq_true rfl)) dX2_writeAct_24 ⟨Nat.le_of_ble_eq_true rfl, Nat.le_of_ble_eq_true rfl⟩) hA hP hD hS [0, 1] [] rfl rfl (by decide) (by decide) (fun _ u_r_15 H locs wr_15 hP hD hS => ?_)
      have hP : va_P D vwCl [(aW, .inr (2, [.ref bW, .int 4])), (bW, .inl (cB, 11, .inl (upd (upd (upd (upd (fun _ => 0) (0 : Int32).toNatClampNeg (vp_nar .byte ((48 + ((n / 10) - (n / 10) / 10 * 10)).toUInt32 % 65536).toInt32.toInt8.toInt32)) (1 : Int32).toNatClampNeg (vp_nar .byte ((48 + ((n / 1) - (n / 1) / 10 * 10)).toUInt32 % 65536).toInt32.toInt8.toInt32)) (2 : Int32).toNatClampNeg (vp_nar .byte (32 : Int32).toInt8.toInt32)) (3 : Int32).toNatClampNeg (vp_nar .byte (48 : Int32).toInt8.toInt32))))] H := hP
      have hD : va_D A [(aW, .inr (2, [.ref bW, .int 4])), (bW, .inl (cB, 11, .inl (upd (upd (upd (upd (fun _ => 0) (0 : Int32).toNatClampNeg (vp_nar .byte ((48 + ((n / 10) - (n / 10) / 10 * 10)).toUInt32 % 65536).toInt32.toInt8.toInt32)) (1 : Int32).toNatClampNeg (vp_nar .byte ((48 + ((n / 1) - (n / 1) / 10 * 10)).toUInt32 % 65536).toInt32.toInt8.toInt32)) (2 : Int32).toNatClampNeg (vp_nar .byte (32 : Int32).toInt8.toInt32)) (3 : Int32).toNatClampNeg (vp_nar .byte (48 : Int32).toInt8.toInt32))))] := hD
      try dsimp only at wr_15
      refine lv_aload_n hx hb dX2_writeAct_27 rfl (lv_at hl 0 rfl) ?_
      refine lv_iload_n hx hb dX2_writeAct_28 rfl (lv_at hl 2 rfl) ?_
      refine lv_bipush (v := 17) hx hb dX2_writeAct_29 (by decide) ?_
      refine lv_ishr hx hb dX2_writeAct_31 ?_
      refine lv_topi (fun x_16 ex_16 => ?_)
      obtain rfl : x_16 = 0 := ex_16.trans (by decide)
      refine lv_if_eq (tgt := 40) hx hb dX2_writeAct_32 (by decide) (fun c_32_16 => ?_) (fun c_32_16 => ?_)
      · have t_32_16 := c_32_16
        try simp only [kb_eq0, kb_ne0, lg_cmp_lt, lg_cmp_le, lg_cmp_gt, lg_cmp_ge, lg_cmp_eq] at t_32_16
        try simp only [Int32.lt_iff_toInt_lt, Int32.le_iff_toInt_le, ← Int32.toInt_inj, Int64.lt_iff_toInt_lt, Int64.le_iff_toInt_le, ← Int64.toInt_inj, Int32.toInt_toInt64, Int32.reduceToInt, Int64.reduceToInt] at t_32_16
        refine lv_bipush (v := 43) hx hb dX2_writeAct_40 (by decide) ?_
        refine kCallVd (wr := []) (va_runV (As := [.int 43]) (rest := []) ⟨hx, hb, hml, hown, hts⟩ (c_addByte_4 l D cI cL cB cZ cT _ aW bW (upd (upd (upd (upd (fun _ => 0) (0 : Int32).toNatClampNeg (vp_nar .byte ((48 + ((n / 10) - (n / 10) / 10 * 10)).toUInt32 % 65536).toInt32.toInt8.toInt32)) (1 : Int32).toNatClampNeg (vp_nar .byte ((48 + ((n / 1) - (n / 1) / 10 * 10)).toUInt32 % 65536).toInt32.toInt8.toInt32)) (2 : Int32).toNatClampNeg (vp_nar .byte (32 : Int32).toInt8.toInt32)) (3 : Int32).toNatClampNeg (vp_nar .byte (48 : Int32).toInt8.toInt32)) 43) (cwV 1 hts gX2_writeAct_X2_addByte rfl rfl rfl (by decide +kernel) ⟨Nat.le_of_ble_eq_true rfl, Nat.le_of_ble_eq_true rfl⟩) (kPreV hG hP hD [0, 1] rfl (by decide) 0 2 rfl rfl rfl) rfl rfl hl.1 rfl (lv_room (Nat.le_of_ble_eq_true rfl)) dX2_writeAct_42 ⟨Nat.le_of_ble_eq_true rfl, Nat.le_of_ble_eq_true rfl⟩) hA hP hD hS [0, 1] [] rfl rfl (by decide) (by decide) (fun _ u_r_18 H locs wr_18 hP hD hS => ?_)
        have hP : va_P D vwCl [(aW, .inr (2, [.ref bW, .int 5])), (bW, .inl (cB, 11, .inl (upd (upd (upd (upd (upd (fun _ => 0) (0 : Int32).toNatClampNeg (vp_nar .byte ((48 + ((n / 10) - (n / 10) / 10 * 10)).toUInt32 % 65536).toInt32.toInt8.toInt32)) (1 : Int32).toNatClampNeg (vp_nar .byte ((48 + ((n / 1) - (n / 1) / 10 * 10)).toUInt32 % 65536).toInt32.toInt8.toInt32)) (2 : Int32).toNatClampNeg (vp_nar .byte (32 : Int32).toInt8.toInt32)) (3 : Int32).toNatClampNeg (vp_nar .byte (48 : Int32).toInt8.toInt32)) (4 : Int32).toNatClampNeg (vp_nar .byte (43 : Int32).toInt8.toInt32))))] H := hP
        have hD : va_D A [(aW, .inr (2, [.ref bW, .int 5])), (bW, .inl (cB, 11, .inl (upd (upd (upd (upd (upd (fun _ => 0) (0 : Int32).toNatClampNeg (vp_nar .byte ((48 + ((n / 10) - (n / 10) / 10 * 10)).toUInt32 % 65536).toInt32.toInt8.toInt32)) (1 : Int32).toNatClampNeg (vp_nar .byte ((48 + ((n / 1) - (n / 1) / 10 * 10)).toUInt32 % 65536).toInt32.toInt8.toInt32)) (2 : Int32).toNatClampNeg (vp_nar .byte (32 : Int32).toInt8.toInt32)) (3 : Int32).toNatClampNeg (vp_nar .byte (48 : Int32).toInt8.toInt32)) (4 : Int32).toNatClampNeg (vp_nar .byte (43 : Int32).toInt8.toInt32))))] := hD
        try dsimp only at wr_18
        refine lv_aload_n hx hb dX2_writeAct_45 rfl (lv_at hl 0 rfl) ?_
        refine lv_iload_n hx hb dX2_writeAct_46 rfl (lv_at hl 2 rfl) ?_
        refine lv_sipush (v := 4095) hx hb dX2_writeAct_47 (by decide) ?_
        refine lv_iand hx hb dX2_writeAct_50 ?_
        refine lv_topi (fun x_19 ex_19 => ?_)
        obtain rfl : x_19 = 0 := ex_19.trans (by decide)
        refine kCallVd (wr := []) (va_runV (As := [.int 0]) (rest := []) ⟨hx, hb, hml, hown, hts⟩ (c_addZ_5 l D cI cL cB cZ cT _ aW bW (upd (upd (upd (upd (upd (fun _ => 0) (0 : Int32).toNatClampNeg (vp_nar .byte ((48 + ((n / 10) - (n / 10) / 10 * 10)).toUInt32 % 65536).toInt32.toInt8.toInt32)) (1 : Int32).toNatClampNeg (vp_nar .byte ((48 + ((n / 1) - (n / 1) / 10 * 10)).toUInt32 % 65536).toInt32.toInt8.toInt32)) (2 : Int32).toNatClampNeg (vp_nar .byte (32 : Int32).toInt8.toInt32)) (3 : Int32).toNatClampNeg (vp_nar .byte (48 : Int32).toInt8.toInt32)) (4 : Int32).toNatClampNeg (vp_nar .byte (43 : Int32).toInt8.toInt32))) (cwV 1 hts gX2_writeAct_X2_addNumber rfl rfl rfl (by decide +kernel) ⟨Nat.le_of_ble_eq_true rfl, Nat.le_of_ble_eq_true rfl⟩) (kPreV hG hP hD [0, 1] rfl (by decide) 0 2 rfl rfl rfl) rfl rfl hl.1 rfl (lv_room (Nat.le_of_ble_eq_true rfl)) dX2_writeAct_51 ⟨Nat.le_of_ble_eq_true rfl, Nat.le_of_ble_eq_true rfl⟩) hA hP hD hS [0, 1] [] rfl rfl (by decide) (by decide) (fun _ u_r_20 H locs wr_20 hP hD hS => ?_)
        have hP : va_P D vwCl [(aW, .inr (2, [.ref bW, .int 6])), (bW, .inl (cB, 11, .inl (upd (upd (upd (upd (upd (upd (fun _ => 0) (0 : Int32).toNatClampNeg (vp_nar .byte ((48 + ((n / 10) - (n / 10) / 10 * 10)).toUInt32 % 65536).toInt32.toInt8.toInt32)) (1 : Int32).toNatClampNeg (vp_nar .byte ((48 + ((n / 1) - (n / 1) / 10 * 10)).toUInt32 % 65536).toInt32.toInt8.toInt32)) (2 : Int32).toNatClampNeg (vp_nar .byte (32 : Int32).toInt8.toInt32)) (3 : Int32).toNatClampNeg (vp_nar .byte (48 : Int32).toInt8.toInt32)) (4 : Int32).toNatClampNeg (vp_nar .byte (43 : Int32).toInt8.toInt32)) (5 : Int32).toNatClampNeg (vp_nar .byte (48 : Int32).toInt8.toInt32))))] H := hP
        have hD : va_D A [(aW, .inr (2, [.ref bW, .int 6])), (bW, .inl (cB, 11, .inl (upd (upd (upd (upd (upd (upd (fun _ => 0) (0 : Int32).toNatClampNeg (vp_nar .byte ((48 + ((n / 10) - (n / 10) / 10 * 10)).toUInt32 % 65536).toInt32.toInt8.toInt32)) (1 : Int32).toNatClampNeg (vp_nar .byte ((48 + ((n / 1) - (n / 1) / 10 * 10)).toUInt32 % 65536).toInt32.toInt8.toInt32)) (2 : Int32).toNatClampNeg (vp_nar .byte (32 : Int32).toInt8.toInt32)) (3 : Int32).toNatClampNeg (vp_nar .byte (48 : Int32).toInt8.toInt32)) (4 : Int32).toNatClampNeg (vp_nar .byte (43 : Int32).toInt8.toInt32)) (5 : Int32).toNatClampNeg (vp_nar .byte (48 : Int32).toInt8.toInt32))))] := hD
        try dsimp only at wr_20
        refine kVret (u := ()) hx hb hr hlocks hS dX2_writeAct_54 ?_ (hP.sub [0, 1] (by rw [hE1, hE2]; rfl)) (hD.sub [0, 1] (by decide) (by rw [hE1, hE2]; rfl))
        exact trivial
      · exact absurd (by decide) c_32_16
    · have hE1 := kLn_3 (n := n) hdA hdB
      have hE2 := kRw_3 (n := n) hdA hdB
      refine lv_aload_n hx hb dX2_writeAct_0 rfl (lv_at hl 0 rfl) ?_
      refine lv_iconst (v := 0) hx hb dX2_writeAct_1 (by decide) ?_
      refine va_put (D := D) (ci := 2) (v := .int 0) (ty := .int) (C := RX2) (T := TX2) (N := 2) hx hb hts iX2_writeAct_X2 tyX2 tyX2_ok nmX2 hown hK hP hD hS 0 rfl rfl 1 (by decide) (hts (.fieldLink RX2 15 "TapeCalculator$LineWriter" "length" "I") (List.mem_of_getElem? (i := 1) rfl)) (fun _ h9 => h9) rfl (by decide +kernel) rfl rfl (Nat.le_of_ble_eq_true rfl) dX2_writeAct_2 (fun H locs hP hD hS => ?_)
      have hP : va_P D vwCl [(aW, .inr (2, [.ref bW, .int 0])), (bW, .inl (cB, 11, .inl (fun _ => 0)))] H := hP
      have hD : va_D A [(aW, .inr (2, [.ref bW, .int 0])), (bW, .inl (cB, 11, .inl (fun _ => 0)))] := hD
      refine lv_aload_n hx hb dX2_writeAct_5 rfl (lv_at hl 0 rfl) ?_
      refine lv_iload_n hx hb dX2_writeAct_6 rfl (lv_at hl 1 rfl) ?_
      refine kCallVd (wr := []) (va_runV (As := [.int n]) (rest := []) ⟨hx, hb, hml, hown, hts⟩ (c_addN_3 l D cI cL cB cZ cT _ aW bW (fun _ => 0) n ⟨by omega, by omega⟩) (cwV 1 hts gX2_writeAct_X2_addNumber rfl rfl rfl (by decide +kernel) ⟨Nat.le_of_ble_eq_true rfl, Nat.le_of_ble_eq_true rfl⟩) (kPreV hG hP hD [0, 1] rfl (by decide) 0 2 rfl rfl rfl) rfl rfl hl.1 rfl (lv_room (Nat.le_of_ble_eq_true rfl)) dX2_writeAct_7 ⟨Nat.le_of_ble_eq_true rfl, Nat.le_of_ble_eq_true rfl⟩) hA hP hD hS [0, 1] [] rfl rfl (by decide) (by decide) (fun _ u_r_21 H locs wr_21 hP hD hS => ?_)
      have hP : va_P D vwCl [(aW, .inr (2, [.ref bW, .int 3])), (bW, .inl (cB, 11, .inl (upd (upd (upd (fun _ => 0) (0 : Int32).toNatClampNeg (vp_nar .byte ((48 + ((n / 100) - (n / 100) / 10 * 10)).toUInt32 % 65536).toInt32.toInt8.toInt32)) (1 : Int32).toNatClampNeg (vp_nar .byte ((48 + ((n / 10) - (n / 10) / 10 * 10)).toUInt32 % 65536).toInt32.toInt8.toInt32)) (2 : Int32).toNatClampNeg (vp_nar .byte ((48 + ((n / 1) - (n / 1) / 10 * 10)).toUInt32 % 65536).toInt32.toInt8.toInt32))))] H := hP
      have hD : va_D A [(aW, .inr (2, [.ref bW, .int 3])), (bW, .inl (cB, 11, .inl (upd (upd (upd (fun _ => 0) (0 : Int32).toNatClampNeg (vp_nar .byte ((48 + ((n / 100) - (n / 100) / 10 * 10)).toUInt32 % 65536).toInt32.toInt8.toInt32)) (1 : Int32).toNatClampNeg (vp_nar .byte ((48 + ((n / 10) - (n / 10) / 10 * 10)).toUInt32 % 65536).toInt32.toInt8.toInt32)) (2 : Int32).toNatClampNeg (vp_nar .byte ((48 + ((n / 1) - (n / 1) / 10 * 10)).toUInt32 % 65536).toInt32.toInt8.toInt32))))] := hD
      try dsimp only at wr_21
      refine lv_aload_n hx hb dX2_writeAct_10 rfl (lv_at hl 0 rfl) ?_
      refine lv_bipush (v := 32) hx hb dX2_writeAct_11 (by decide) ?_
      refine kCallVd (wr := []) (va_runV (As := [.int 32]) (rest := []) ⟨hx, hb, hml, hown, hts⟩ (c_addByte_3 l D cI cL cB cZ cT _ aW bW (upd (upd (upd (fun _ => 0) (0 : Int32).toNatClampNeg (vp_nar .byte ((48 + ((n / 100) - (n / 100) / 10 * 10)).toUInt32 % 65536).toInt32.toInt8.toInt32)) (1 : Int32).toNatClampNeg (vp_nar .byte ((48 + ((n / 10) - (n / 10) / 10 * 10)).toUInt32 % 65536).toInt32.toInt8.toInt32)) (2 : Int32).toNatClampNeg (vp_nar .byte ((48 + ((n / 1) - (n / 1) / 10 * 10)).toUInt32 % 65536).toInt32.toInt8.toInt32)) 32) (cwV 1 hts gX2_writeAct_X2_addByte rfl rfl rfl (by decide +kernel) ⟨Nat.le_of_ble_eq_true rfl, Nat.le_of_ble_eq_true rfl⟩) (kPreV hG hP hD [0, 1] rfl (by decide) 0 2 rfl rfl rfl) rfl rfl hl.1 rfl (lv_room (Nat.le_of_ble_eq_true rfl)) dX2_writeAct_13 ⟨Nat.le_of_ble_eq_true rfl, Nat.le_of_ble_eq_true rfl⟩) hA hP hD hS [0, 1] [] rfl rfl (by decide) (by decide) (fun _ u_r_22 H locs wr_22 hP hD hS => ?_)
      have hP : va_P D vwCl [(aW, .inr (2, [.ref bW, .int 4])), (bW, .inl (cB, 11, .inl (upd (upd (upd (upd (fun _ => 0) (0 : Int32).toNatClampNeg (vp_nar .byte ((48 + ((n / 100) - (n / 100) / 10 * 10)).toUInt32 % 65536).toInt32.toInt8.toInt32)) (1 : Int32).toNatClampNeg (vp_nar .byte ((48 + ((n / 10) - (n / 10) / 10 * 10)).toUInt32 % 65536).toInt32.toInt8.toInt32)) (2 : Int32).toNatClampNeg (vp_nar .byte ((48 + ((n / 1) - (n / 1) / 10 * 10)).toUInt32 % 65536).toInt32.toInt8.toInt32)) (3 : Int32).toNatClampNeg (vp_nar .byte (32 : Int32).toInt8.toInt32))))] H := hP
      have hD : va_D A [(aW, .inr (2, [.ref bW, .int 4])), (bW, .inl (cB, 11, .inl (upd (upd (upd (upd (fun _ => 0) (0 : Int32).toNatClampNeg (vp_nar .byte ((48 + ((n / 100) - (n / 100) / 10 * 10)).toUInt32 % 65536).toInt32.toInt8.toInt32)) (1 : Int32).toNatClampNeg (vp_nar .byte ((48 + ((n / 10) - (n / 10) / 10 * 10)).toUInt32 % 65536).toInt32.toInt8.toInt32)) (2 : Int32).toNatClampNeg (vp_nar .byte ((48 + ((n / 1) - (n / 1) / 10 * 10)).toUInt32 % 65536).toInt32.toInt8.toInt32)) (3 : Int32).toNatClampNeg (vp_nar .byte (32 : Int32).toInt8.toInt32))))] := hD
      try dsimp only at wr_22
      refine lv_aload_n hx hb dX2_writeAct_16 rfl (lv_at hl 0 rfl) ?_
      refine lv_iload_n hx hb dX2_writeAct_17 rfl (lv_at hl 2 rfl) ?_
      refine lv_bipush (v := 12) hx hb dX2_writeAct_18 (by decide) ?_
      refine lv_ishr hx hb dX2_writeAct_20 ?_
      refine lv_topi (fun x_23 ex_23 => ?_)
      obtain rfl : x_23 = 0 := ex_23.trans (by decide)
      refine lv_bipush (v := 31) hx hb dX2_writeAct_21 (by decide) ?_
      refine lv_iand hx hb dX2_writeAct_23 ?_
      refine lv_topi (fun x_24 ex_24 => ?_)
      obtain rfl : x_24 = 0 := ex_24.trans (by decide)
      refine kCallVd (wr := []) (va_runV (As := [.int 0]) (rest := []) ⟨hx, hb, hml, hown, hts⟩ (c_addZ_4 l D cI cL cB cZ cT _ aW bW (upd (upd (upd (upd (fun _ => 0) (0 : Int32).toNatClampNeg (vp_nar .byte ((48 + ((n / 100) - (n / 100) / 10 * 10)).toUInt32 % 65536).toInt32.toInt8.toInt32)) (1 : Int32).toNatClampNeg (vp_nar .byte ((48 + ((n / 10) - (n / 10) / 10 * 10)).toUInt32 % 65536).toInt32.toInt8.toInt32)) (2 : Int32).toNatClampNeg (vp_nar .byte ((48 + ((n / 1) - (n / 1) / 10 * 10)).toUInt32 % 65536).toInt32.toInt8.toInt32)) (3 : Int32).toNatClampNeg (vp_nar .byte (32 : Int32).toInt8.toInt32))) (cwV 1 hts gX2_writeAct_X2_addNumber rfl rfl rfl (by decide +kernel) ⟨Nat.le_of_ble_eq_true rfl, Nat.le_of_ble_eq_true rfl⟩) (kPreV hG hP hD [0, 1] rfl (by decide) 0 2 rfl rfl rfl) rfl rfl hl.1 rfl (lv_room (Nat.le_of_ble_eq_true rfl)) dX2_writeAct_24 ⟨Nat.le_of_ble_eq_true rfl, Nat.le_of_ble_eq_true rfl⟩) hA hP hD hS [0, 1] [] rfl rfl (by decide) (by decide) (fun _ u_r_25 H locs wr_25 hP hD hS => ?_)
      have hP : va_P D vwCl [(aW, .inr (2, [.ref bW, .int 5])), (bW, .inl (cB, 11, .inl (upd (upd (upd (upd (upd (fun _ => 0) (0 : Int32).toNatClampNeg (vp_nar .byte ((48 + ((n / 100) - (n / 100) / 10 * 10)).toUInt32 % 65536).toInt32.toInt8.toInt32)) (1 : Int32).toNatClampNeg (vp_nar .byte ((48 + ((n / 10) - (n / 10) / 10 * 10)).toUInt32 % 65536).toInt32.toInt8.toInt32)) (2 : Int32).toNatClampNeg (vp_nar .byte ((48 + ((n / 1) - (n / 1) / 10 * 10)).toUInt32 % 65536).toInt32.toInt8.toInt32)) (3 : Int32).toNatClampNeg (vp_nar .byte (32 : Int32).toInt8.toInt32)) (4 : Int32).toNatClampNeg (vp_nar .byte (48 : Int32).toInt8.toInt32))))] H := hP
      have hD : va_D A [(aW, .inr (2, [.ref bW, .int 5])), (bW, .inl (cB, 11, .inl (upd (upd (upd (upd (upd (fun _ => 0) (0 : Int32).toNatClampNeg (vp_nar .byte ((48 + ((n / 100) - (n / 100) / 10 * 10)).toUInt32 % 65536).toInt32.toInt8.toInt32)) (1 : Int32).toNatClampNeg (vp_nar .byte ((48 + ((n / 10) - (n / 10) / 10 * 10)).toUInt32 % 65536).toInt32.toInt8.toInt32)) (2 : Int32).toNatClampNeg (vp_nar .byte ((48 + ((n / 1) - (n / 1) / 10 * 10)).toUInt32 % 65536).toInt32.toInt8.toInt32)) (3 : Int32).toNatClampNeg (vp_nar .byte (32 : Int32).toInt8.toInt32)) (4 : Int32).toNatClampNeg (vp_nar .byte (48 : Int32).toInt8.toInt32))))] := hD
      try dsimp only at wr_25
      refine lv_aload_n hx hb dX2_writeAct_27 rfl (lv_at hl 0 rfl) ?_
      refine lv_iload_n hx hb dX2_writeAct_28 rfl (lv_at hl 2 rfl) ?_
      refine lv_bipush (v := 17) hx hb dX2_writeAct_29 (by decide) ?_
      refine lv_ishr hx hb dX2_writeAct_31 ?_
      refine lv_topi (fun x_26 ex_26 => ?_)
      obtain rfl : x_26 = 0 := ex_26.trans (by decide)
      refine lv_if_eq (tgt := 40) hx hb dX2_writeAct_32 (by decide) (fun c_32_26 => ?_) (fun c_32_26 => ?_)
      · have t_32_26 := c_32_26
        try simp only [kb_eq0, kb_ne0, lg_cmp_lt, lg_cmp_le, lg_cmp_gt, lg_cmp_ge, lg_cmp_eq] at t_32_26
        try simp only [Int32.lt_iff_toInt_lt, Int32.le_iff_toInt_le, ← Int32.toInt_inj, Int64.lt_iff_toInt_lt, Int64.le_iff_toInt_le, ← Int64.toInt_inj, Int32.toInt_toInt64, Int32.reduceToInt, Int64.reduceToInt] at t_32_26
        refine lv_bipush (v := 43) hx hb dX2_writeAct_40 (by decide) ?_
        refine kCallVd (wr := []) (va_runV (As := [.int 43]) (rest := []) ⟨hx, hb, hml, hown, hts⟩ (c_addByte_5 l D cI cL cB cZ cT _ aW bW (upd (upd (upd (upd (upd (fun _ => 0) (0 : Int32).toNatClampNeg (vp_nar .byte ((48 + ((n / 100) - (n / 100) / 10 * 10)).toUInt32 % 65536).toInt32.toInt8.toInt32)) (1 : Int32).toNatClampNeg (vp_nar .byte ((48 + ((n / 10) - (n / 10) / 10 * 10)).toUInt32 % 65536).toInt32.toInt8.toInt32)) (2 : Int32).toNatClampNeg (vp_nar .byte ((48 + ((n / 1) - (n / 1) / 10 * 10)).toUInt32 % 65536).toInt32.toInt8.toInt32)) (3 : Int32).toNatClampNeg (vp_nar .byte (32 : Int32).toInt8.toInt32)) (4 : Int32).toNatClampNeg (vp_nar .byte (48 : Int32).toInt8.toInt32)) 43) (cwV 1 hts gX2_writeAct_X2_addByte rfl rfl rfl (by decide +kernel) ⟨Nat.le_of_ble_eq_true rfl, Nat.le_of_ble_eq_true rfl⟩) (kPreV hG hP hD [0, 1] rfl (by decide) 0 2 rfl rfl rfl) rfl rfl hl.1 rfl (lv_room (Nat.le_of_ble_eq_true rfl)) dX2_writeAct_42 ⟨Nat.le_of_ble_eq_true rfl, Nat.le_of_ble_eq_true rfl⟩) hA hP hD hS [0, 1] [] rfl rfl (by decide) (by decide) (fun _ u_r_28 H locs wr_28 hP hD hS => ?_)
        have hP : va_P D vwCl [(aW, .inr (2, [.ref bW, .int 6])), (bW, .inl (cB, 11, .inl (upd (upd (upd (upd (upd (upd (fun _ => 0) (0 : Int32).toNatClampNeg (vp_nar .byte ((48 + ((n / 100) - (n / 100) / 10 * 10)).toUInt32 % 65536).toInt32.toInt8.toInt32)) (1 : Int32).toNatClampNeg (vp_nar .byte ((48 + ((n / 10) - (n / 10) / 10 * 10)).toUInt32 % 65536).toInt32.toInt8.toInt32)) (2 : Int32).toNatClampNeg (vp_nar .byte ((48 + ((n / 1) - (n / 1) / 10 * 10)).toUInt32 % 65536).toInt32.toInt8.toInt32)) (3 : Int32).toNatClampNeg (vp_nar .byte (32 : Int32).toInt8.toInt32)) (4 : Int32).toNatClampNeg (vp_nar .byte (48 : Int32).toInt8.toInt32)) (5 : Int32).toNatClampNeg (vp_nar .byte (43 : Int32).toInt8.toInt32))))] H := hP
        have hD : va_D A [(aW, .inr (2, [.ref bW, .int 6])), (bW, .inl (cB, 11, .inl (upd (upd (upd (upd (upd (upd (fun _ => 0) (0 : Int32).toNatClampNeg (vp_nar .byte ((48 + ((n / 100) - (n / 100) / 10 * 10)).toUInt32 % 65536).toInt32.toInt8.toInt32)) (1 : Int32).toNatClampNeg (vp_nar .byte ((48 + ((n / 10) - (n / 10) / 10 * 10)).toUInt32 % 65536).toInt32.toInt8.toInt32)) (2 : Int32).toNatClampNeg (vp_nar .byte ((48 + ((n / 1) - (n / 1) / 10 * 10)).toUInt32 % 65536).toInt32.toInt8.toInt32)) (3 : Int32).toNatClampNeg (vp_nar .byte (32 : Int32).toInt8.toInt32)) (4 : Int32).toNatClampNeg (vp_nar .byte (48 : Int32).toInt8.toInt32)) (5 : Int32).toNatClampNeg (vp_nar .byte (43 : Int32).toInt8.toInt32))))] := hD
        try dsimp only at wr_28
        refine lv_aload_n hx hb dX2_writeAct_45 rfl (lv_at hl 0 rfl) ?_
        refine lv_iload_n hx hb dX2_writeAct_46 rfl (lv_at hl 2 rfl) ?_
        refine lv_sipush (v := 4095) hx hb dX2_writeAct_47 (by decide) ?_
        refine lv_iand hx hb dX2_writeAct_50 ?_
        refine lv_topi (fun x_29 ex_29 => ?_)
        obtain rfl : x_29 = 0 := ex_29.trans (by decide)
        refine kCallVd (wr := []) (va_runV (As := [.int 0]) (rest := []) ⟨hx, hb, hml, hown, hts⟩ (c_addZ_6 l D cI cL cB cZ cT _ aW bW (upd (upd (upd (upd (upd (upd (fun _ => 0) (0 : Int32).toNatClampNeg (vp_nar .byte ((48 + ((n / 100) - (n / 100) / 10 * 10)).toUInt32 % 65536).toInt32.toInt8.toInt32)) (1 : Int32).toNatClampNeg (vp_nar .byte ((48 + ((n / 10) - (n / 10) / 10 * 10)).toUInt32 % 65536).toInt32.toInt8.toInt32)) (2 : Int32).toNatClampNeg (vp_nar .byte ((48 + ((n / 1) - (n / 1) / 10 * 10)).toUInt32 % 65536).toInt32.toInt8.toInt32)) (3 : Int32).toNatClampNeg (vp_nar .byte (32 : Int32).toInt8.toInt32)) (4 : Int32).toNatClampNeg (vp_nar .byte (48 : Int32).toInt8.toInt32)) (5 : Int32).toNatClampNeg (vp_nar .byte (43 : Int32).toInt8.toInt32))) (cwV 1 hts gX2_writeAct_X2_addNumber rfl rfl rfl (by decide +kernel) ⟨Nat.le_of_ble_eq_true rfl, Nat.le_of_ble_eq_true rfl⟩) (kPreV hG hP hD [0, 1] rfl (by decide) 0 2 rfl rfl rfl) rfl rfl hl.1 rfl (lv_room (Nat.le_of_ble_eq_true rfl)) dX2_writeAct_51 ⟨Nat.le_of_ble_eq_true rfl, Nat.le_of_ble_eq_true rfl⟩) hA hP hD hS [0, 1] [] rfl rfl (by decide) (by decide) (fun _ u_r_30 H locs wr_30 hP hD hS => ?_)
        have hP : va_P D vwCl [(aW, .inr (2, [.ref bW, .int 7])), (bW, .inl (cB, 11, .inl (upd (upd (upd (upd (upd (upd (upd (fun _ => 0) (0 : Int32).toNatClampNeg (vp_nar .byte ((48 + ((n / 100) - (n / 100) / 10 * 10)).toUInt32 % 65536).toInt32.toInt8.toInt32)) (1 : Int32).toNatClampNeg (vp_nar .byte ((48 + ((n / 10) - (n / 10) / 10 * 10)).toUInt32 % 65536).toInt32.toInt8.toInt32)) (2 : Int32).toNatClampNeg (vp_nar .byte ((48 + ((n / 1) - (n / 1) / 10 * 10)).toUInt32 % 65536).toInt32.toInt8.toInt32)) (3 : Int32).toNatClampNeg (vp_nar .byte (32 : Int32).toInt8.toInt32)) (4 : Int32).toNatClampNeg (vp_nar .byte (48 : Int32).toInt8.toInt32)) (5 : Int32).toNatClampNeg (vp_nar .byte (43 : Int32).toInt8.toInt32)) (6 : Int32).toNatClampNeg (vp_nar .byte (48 : Int32).toInt8.toInt32))))] H := hP
        have hD : va_D A [(aW, .inr (2, [.ref bW, .int 7])), (bW, .inl (cB, 11, .inl (upd (upd (upd (upd (upd (upd (upd (fun _ => 0) (0 : Int32).toNatClampNeg (vp_nar .byte ((48 + ((n / 100) - (n / 100) / 10 * 10)).toUInt32 % 65536).toInt32.toInt8.toInt32)) (1 : Int32).toNatClampNeg (vp_nar .byte ((48 + ((n / 10) - (n / 10) / 10 * 10)).toUInt32 % 65536).toInt32.toInt8.toInt32)) (2 : Int32).toNatClampNeg (vp_nar .byte ((48 + ((n / 1) - (n / 1) / 10 * 10)).toUInt32 % 65536).toInt32.toInt8.toInt32)) (3 : Int32).toNatClampNeg (vp_nar .byte (32 : Int32).toInt8.toInt32)) (4 : Int32).toNatClampNeg (vp_nar .byte (48 : Int32).toInt8.toInt32)) (5 : Int32).toNatClampNeg (vp_nar .byte (43 : Int32).toInt8.toInt32)) (6 : Int32).toNatClampNeg (vp_nar .byte (48 : Int32).toInt8.toInt32))))] := hD
        try dsimp only at wr_30
        refine kVret (u := ()) hx hb hr hlocks hS dX2_writeAct_54 ?_ (hP.sub [0, 1] (by rw [hE1, hE2]; rfl)) (hD.sub [0, 1] (by decide) (by rw [hE1, hE2]; rfl))
        exact trivial
      · exact absurd (by decide) c_32_26
set_option maxRecDepth 100000 in
theorem iX2_byteAt_X2 : ∀ w ∈ wsX20, w ∈ wsX2_byteAt := fun w h => (goodIn_r (big := wsX2_byteAt) wsX20 [3, 4] rfl (by decide +kernel) w h).1
set_option maxRecDepth 100000 in
set_option maxHeartbeats 4000000 in
theorem c_byteAt (l : Launch) (D : va_G) (cI cL cB cZ cT : ClassId) (sz : Nat) (aW bW : Nat) (fw : Nat → Int32) (wl i : Int32) (hw : 0 ≤ wl.toInt ∧ wl.toInt ≤ 11) : kM (S := Unit) l yX2_byteAt wsX2_byteAt ({ frames := 0, cells := 0, slots := 0, locals := 0 }) D (kT cI cL cB cZ cT) [.ref aW, .int i] [(aW, .inr (2, [.ref bW, .int wl])), (bW, .inl (cB, 11, .inl fw))] sz eI (fun r _ => r = (kif (0 ≤ i.toInt ∧ i.toInt < wl.toInt) (fw i.toNatClampNeg) (-9))) (fun _ => [(aW, .inr (2, [.ref bW, .int wl])), (bW, .inl (cB, 11, .inl fw))]) 0 0 := by
  refine kStart (cc := cX2_byteAt) (maxL := 2) (ret := (some .int)) (own := RX2) (by decide) rfl rfl (Nat.le_of_ble_eq_true rfl) ?_
  intro p e s m args below meth c A ls hx hb hr hml hown hts hlocks hnm hsz hA hG hP hD hS hl
  have hK := hG.1
  have hl : lv_has ls 2 [(0, .ref aW), (1, .int i)] := hl
  refine lv_iload_n hx hb dX2_byteAt_0 rfl (lv_at hl 1 rfl) ?_
  refine lv_if_lt (tgt := 30) hx hb dX2_byteAt_1 (by decide) (fun c_1_0 => ?_) (fun c_1_0 => ?_)
  · have t_1_0 := c_1_0
    try simp only [kb_eq0, kb_ne0, lg_cmp_lt, lg_cmp_le, lg_cmp_gt, lg_cmp_ge, lg_cmp_eq] at t_1_0
    try simp only [Int32.lt_iff_toInt_lt, Int32.le_iff_toInt_le, ← Int32.toInt_inj, Int64.lt_iff_toInt_lt, Int64.le_iff_toInt_le, ← Int64.toInt_inj, Int32.toInt_toInt64, Int32.reduceToInt, Int64.reduceToInt] at t_1_0
    refine lv_bipush (v := (-9)) hx hb dX2_byteAt_30 (by decide) ?_
    refine kIret (u := ()) hx hb hr rfl hlocks hS dX2_byteAt_32 ?_ (hP.sub [0, 1] rfl) (hD.sub [0, 1] (by decide) rfl)
    first
      | exact (kif_t (by omega)).symm
      | exact (kif_f (by omega)).symm
  · have t_1_0 := c_1_0
    try simp only [kb_eq0, kb_ne0, lg_cmp_lt, lg_cmp_le, lg_cmp_gt, lg_cmp_ge, lg_cmp_eq] at t_1_0
    try simp only [Int32.lt_iff_toInt_lt, Int32.le_iff_toInt_le, ← Int32.toInt_inj, Int64.lt_iff_toInt_lt, Int64.le_iff_toInt_le, ← Int64.toInt_inj, Int32.toInt_toInt64, Int32.reduceToInt, Int64.reduceToInt] at t_1_0
    refine lv_iload_n hx hb dX2_byteAt_4 rfl (lv_at hl 1 rfl) ?_
    refine lv_aload_n hx hb dX2_byteAt_5 rfl (lv_at hl 0 rfl) ?_
    refine va_get (D := D) (ci := 2) (v := .int wl) (C := RX2) (T := TX2) (N := 2) hx hb hts iX2_byteAt_X2 hown hK hP 0 rfl rfl 1 (by decide) (hts (.fieldLink RX2 15 "TapeCalculator$LineWriter" "length" "I") (List.mem_of_getElem? (i := 1) rfl)) (fun _ h9 => h9) rfl dX2_byteAt_6 ?_
    refine lv_icmp_ge (tgt := 30) hx hb dX2_byteAt_9 (by decide) (fun c_9_1 => ?_) (fun c_9_1 => ?_)
    · have t_9_1 := c_9_1
      try simp only [kb_eq0, kb_ne0, lg_cmp_lt, lg_cmp_le, lg_cmp_gt, lg_cmp_ge, lg_cmp_eq] at t_9_1
      try simp only [Int32.lt_iff_toInt_lt, Int32.le_iff_toInt_le, ← Int32.toInt_inj, Int64.lt_iff_toInt_lt, Int64.le_iff_toInt_le, ← Int64.toInt_inj, Int32.toInt_toInt64, Int32.reduceToInt, Int64.reduceToInt] at t_9_1
      refine lv_bipush (v := (-9)) hx hb dX2_byteAt_30 (by decide) ?_
      refine kIret (u := ()) hx hb hr rfl hlocks hS dX2_byteAt_32 ?_ (hP.sub [0, 1] rfl) (hD.sub [0, 1] (by decide) rfl)
      first
        | exact (kif_t (by omega)).symm
        | exact (kif_f (by omega)).symm
    · have t_9_1 := c_9_1
      try simp only [kb_eq0, kb_ne0, lg_cmp_lt, lg_cmp_le, lg_cmp_gt, lg_cmp_ge, lg_cmp_eq] at t_9_1
      try simp only [Int32.lt_iff_toInt_lt, Int32.le_iff_toInt_le, ← Int32.toInt_inj, Int64.lt_iff_toInt_lt, Int64.le_iff_toInt_le, ← Int64.toInt_inj, Int32.toInt_toInt64, Int32.reduceToInt, Int64.reduceToInt] at t_9_1
      refine lv_iload_n hx hb dX2_byteAt_12 rfl (lv_at hl 1 rfl) ?_
      refine lv_aload_n hx hb dX2_byteAt_13 rfl (lv_at hl 0 rfl) ?_
      refine va_get (D := D) (ci := 2) (v := .ref bW) (C := RX2) (T := TX2) (N := 2) hx hb hts iX2_byteAt_X2 hown hK hP 0 rfl rfl 0 (by decide) (hts (.fieldLink RX2 9 "TapeCalculator$LineWriter" "row" "[B") (List.mem_of_getElem? (i := 2) rfl)) (fun _ h9 => h9) rfl dX2_byteAt_14 ?_
      refine va_alen hx hb hK hP 1 2 rfl rfl (v := 11) rfl dX2_byteAt_17 ?_
      refine lv_icmp_ge (tgt := 30) hx hb dX2_byteAt_18 (by decide) (fun c_18_2 => ?_) (fun c_18_2 => ?_)
      · have t_18_2 := c_18_2
        try simp only [kb_eq0, kb_ne0, lg_cmp_lt, lg_cmp_le, lg_cmp_gt, lg_cmp_ge, lg_cmp_eq] at t_18_2
        try simp only [Int32.lt_iff_toInt_lt, Int32.le_iff_toInt_le, ← Int32.toInt_inj, Int64.lt_iff_toInt_lt, Int64.le_iff_toInt_le, ← Int64.toInt_inj, Int32.toInt_toInt64, Int32.reduceToInt, Int64.reduceToInt] at t_18_2
        refine lv_bipush (v := (-9)) hx hb dX2_byteAt_30 (by decide) ?_
        refine kIret (u := ()) hx hb hr rfl hlocks hS dX2_byteAt_32 ?_ (hP.sub [0, 1] rfl) (hD.sub [0, 1] (by decide) rfl)
        first
          | exact (kif_t (by omega)).symm
          | exact (kif_f (by omega)).symm
      · have t_18_2 := c_18_2
        try simp only [kb_eq0, kb_ne0, lg_cmp_lt, lg_cmp_le, lg_cmp_gt, lg_cmp_ge, lg_cmp_eq] at t_18_2
        try simp only [Int32.lt_iff_toInt_lt, Int32.le_iff_toInt_le, ← Int32.toInt_inj, Int64.lt_iff_toInt_lt, Int64.le_iff_toInt_le, ← Int64.toInt_inj, Int32.toInt_toInt64, Int32.reduceToInt, Int64.reduceToInt] at t_18_2
        refine lv_aload_n hx hb dX2_byteAt_21 rfl (lv_at hl 0 rfl) ?_
        refine va_get (D := D) (ci := 2) (v := .ref bW) (C := RX2) (T := TX2) (N := 2) hx hb hts iX2_byteAt_X2 hown hK hP 0 rfl rfl 0 (by decide) (hts (.fieldLink RX2 9 "TapeCalculator$LineWriter" "row" "[B") (List.mem_of_getElem? (i := 2) rfl)) (fun _ h9 => h9) rfl dX2_byteAt_22 ?_
        refine lv_iload_n hx hb dX2_byteAt_25 rfl (lv_at hl 1 rfl) ?_
        refine va_bald hx hb hK hP 1 2 rfl rfl (vp_in_iff.mpr (by omega)) dX2_byteAt_26 ?_
        refine lv_goto (tgt := 32) hx hb dX2_byteAt_27 (by decide) ?_
        refine kIret (u := ()) hx hb hr rfl hlocks hS dX2_byteAt_32 ?_ (hP.sub [0, 1] rfl) (hD.sub [0, 1] (by decide) rfl)
        first
          | exact (kif_t (by omega)).symm
          | exact (kif_f (by omega)).symm
theorem kLn_in (n : Int32) : 0 ≤ (kLn n).toInt ∧ (kLn n).toInt ≤ 11 := by
  unfold kLn
  split
  · decide
  · split <;> decide
set_option maxRecDepth 100000 in
theorem iX7_written_X7 : ∀ w ∈ wsX70, w ∈ wsX7_written := fun w h => (goodIn_r (big := wsX7_written) wsX70 [32, 33, 34, 35, 36, 37, 38, 39, 40, 41, 42] rfl (by decide +kernel) w h).1
set_option maxRecDepth 100000 in
set_option maxHeartbeats 4000000 in
theorem c_written (l : Launch) (D : va_G) (cI cL cB cZ cT : ClassId) (sz : Nat) (h0 aS aA aU aX aW : Nat) (bS bW : Nat) (n i : Int32) : kM (S := (Int32 × (Nat → Int32))) l yX7_written wsX7_written ({ frames := 3, cells := 0, slots := 0, locals := 65 }) D (kT cI cL cB cZ cT) [.ref h0, .int n, .int i] [(h0, .inr (7, [.ref aS, .ref aA, .ref aU, .ref aX, .ref aW, .int 0, .int 0, .int 0, .int 0, .int 0, .long 0])), (aS, .inr (3, [.ref bS])), (bS, .inl (cI, 512, .inl (fun _ => 0))), (aW, .inr (2, [.ref bW, .int 0])), (bW, .inl (cB, 11, .inl (fun _ => 0)))] sz eI (fun r _ => r = (kif ((0 ≤ n.toInt ∧ n.toInt < 512) ∧ 0 ≤ i.toInt) (kif (0 ≤ i.toInt ∧ i.toInt < (kLn n).toInt) (kRw n i.toNatClampNeg) (-9)) (-1))) (fun u => [(h0, .inr (7, [.ref aS, .ref aA, .ref aU, .ref aX, .ref aW, .int 0, .int 0, .int 0, .int 0, .int 0, .long 0])), (aS, .inr (3, [.ref bS])), (bS, .inl (cI, 512, .inl (fun _ => 0))), (aW, .inr (2, [.ref bW, .int u.1])), (bW, .inl (cB, 11, .inl u.2))]) 0 0 := by
  refine kStart (cc := cX7_written) (maxL := 3) (ret := (some .int)) (own := RX7) (by decide) rfl rfl (Nat.le_of_ble_eq_true rfl) ?_
  intro p e s m args below meth c A ls hx hb hr hml hown hts hlocks hnm hsz hA hG hP hD hS hl
  have hK := hG.1
  have hl : lv_has ls 3 [(0, .ref h0), (1, .int n), (2, .int i)] := hl
  refine lv_iload_n hx hb dX7_written_0 rfl (lv_at hl 1 rfl) ?_
  refine kCallI (wr := [(h0, .inr (7, [.ref aS, .ref aA, .ref aU, .ref aX, .ref aW, .int 0, .int 0, .int 0, .int 0, .int 0, .long 0])), (aS, .inr (3, [.ref bS])), (bS, .inl (cI, 512, .inl (fun _ => 0))), (aW, .inr (2, [.ref bW, .int 0])), (bW, .inl (cB, 11, .inl (fun _ => 0)))]) (va_runS (As := [.int n]) (rest := []) ⟨hx, hb, hml, hown, hts⟩ (c_isHalf l D cI cL cB cZ cT _ n) (va_cwS 1 hts gX7_written_X7_isHalf rfl rfl rfl (by decide +kernel) ⟨Nat.le_of_ble_eq_true rfl, Nat.le_of_ble_eq_true rfl⟩) (kPreS hG hP hD [] rfl (by decide)) rfl rfl hl.1 rfl (lv_room (Nat.le_of_ble_eq_true rfl)) dX7_written_1 ⟨Nat.le_of_ble_eq_true rfl, Nat.le_of_ble_eq_true rfl⟩) hA hP hD hS [] [0, 1, 2, 3, 4] rfl rfl (by decide) (by decide) (fun r_1 u_r_1 H locs wr_1 hP hD hS => ?_)
  have hP : va_P D vwCl [(h0, .inr (7, [.ref aS, .ref aA, .ref aU, .ref aX, .ref aW, .int 0, .int 0, .int 0, .int 0, .int 0, .long 0])), (aS, .inr (3, [.ref bS])), (bS, .inl (cI, 512, .inl (fun _ => 0))), (aW, .inr (2, [.ref bW, .int 0])), (bW, .inl (cB, 11, .inl (fun _ => 0)))] H := hP
  have hD : va_D A [(h0, .inr (7, [.ref aS, .ref aA, .ref aU, .ref aX, .ref aW, .int 0, .int 0, .int 0, .int 0, .int 0, .long 0])), (aS, .inr (3, [.ref bS])), (bS, .inl (cI, 512, .inl (fun _ => 0))), (aW, .inr (2, [.ref bW, .int 0])), (bW, .inl (cB, 11, .inl (fun _ => 0)))] := hD
  try dsimp only at wr_1
  subst wr_1
  refine lv_if_eq (tgt := 11) hx hb dX7_written_4 (by decide) (fun c_4_1 => ?_) (fun c_4_1 => ?_)
  · have t_4_1 := c_4_1
    try simp only [kb_eq0, kb_ne0, lg_cmp_lt, lg_cmp_le, lg_cmp_gt, lg_cmp_ge, lg_cmp_eq] at t_4_1
    try simp only [Int32.lt_iff_toInt_lt, Int32.le_iff_toInt_le, ← Int32.toInt_inj, Int64.lt_iff_toInt_lt, Int64.le_iff_toInt_le, ← Int64.toInt_inj, Int32.toInt_toInt64, Int32.reduceToInt, Int64.reduceToInt] at t_4_1
    refine lv_iconst (v := (-1)) hx hb dX7_written_11 (by decide) ?_
    refine kIret (u := (0, (fun _ => 0))) hx hb hr rfl hlocks hS dX7_written_12 ?_ (hP.sub [0, 1, 2, 3, 4] rfl) (hD.sub [0, 1, 2, 3, 4] (by decide) rfl)
    first
      | exact (kif_t (by omega)).symm
      | exact (kif_f (by omega)).symm
  · have t_4_1 := c_4_1
    try simp only [kb_eq0, kb_ne0, lg_cmp_lt, lg_cmp_le, lg_cmp_gt, lg_cmp_ge, lg_cmp_eq] at t_4_1
    try simp only [Int32.lt_iff_toInt_lt, Int32.le_iff_toInt_le, ← Int32.toInt_inj, Int64.lt_iff_toInt_lt, Int64.le_iff_toInt_le, ← Int64.toInt_inj, Int32.toInt_toInt64, Int32.reduceToInt, Int64.reduceToInt] at t_4_1
    refine lv_iload_n hx hb dX7_written_7 rfl (lv_at hl 2 rfl) ?_
    refine lv_if_ge (tgt := 13) hx hb dX7_written_8 (by decide) (fun c_8_2 => ?_) (fun c_8_2 => ?_)
    · have t_8_2 := c_8_2
      try simp only [kb_eq0, kb_ne0, lg_cmp_lt, lg_cmp_le, lg_cmp_gt, lg_cmp_ge, lg_cmp_eq] at t_8_2
      try simp only [Int32.lt_iff_toInt_lt, Int32.le_iff_toInt_le, ← Int32.toInt_inj, Int64.lt_iff_toInt_lt, Int64.le_iff_toInt_le, ← Int64.toInt_inj, Int32.toInt_toInt64, Int32.reduceToInt, Int64.reduceToInt] at t_8_2
      refine lv_aload_n hx hb dX7_written_13 rfl (lv_at hl 0 rfl) ?_
      refine va_get (D := D) (ci := 7) (v := .ref aW) (C := RX7) (T := TX7) (N := 11) hx hb hts iX7_written_X7 hown hK hP 0 rfl rfl 4 (by decide) (hts (.fieldLink RX7 40 "TapeCalculator" "writer" "LTapeCalculator$LineWriter;") (List.mem_of_getElem? (i := 1) rfl)) (fun _ h9 => h9) rfl dX7_written_14 ?_
      refine lv_iload_n hx hb dX7_written_17 rfl (lv_at hl 1 rfl) ?_
      refine lv_aload_n hx hb dX7_written_18 rfl (lv_at hl 0 rfl) ?_
      refine va_get (D := D) (ci := 7) (v := .ref aS) (C := RX7) (T := TX7) (N := 11) hx hb hts iX7_written_X7 hown hK hP 0 rfl rfl 0 (by decide) (hts (.fieldLink RX7 12 "TapeCalculator" "store" "LTapeCalculator$Store;") (List.mem_of_getElem? (i := 2) rfl)) (fun _ h9 => h9) rfl dX7_written_19 ?_
      refine lv_iload_n hx hb dX7_written_22 rfl (lv_at hl 1 rfl) ?_
      refine kCallI (wr := [(h0, .inr (7, [.ref aS, .ref aA, .ref aU, .ref aX, .ref aW, .int 0, .int 0, .int 0, .int 0, .int 0, .long 0])), (aW, .inr (2, [.ref bW, .int 0])), (bW, .inl (cB, 11, .inl (fun _ => 0)))]) (va_runV (As := [.int n]) (rest := [.int n, .ref aW]) ⟨hx, hb, hml, hown, hts⟩ (c_halfAt l D cI cL cB cZ cT _ aS bS n) (cwV 1 hts gX7_written_X3_halfAt rfl rfl rfl (by decide +kernel) ⟨Nat.le_of_ble_eq_true rfl, Nat.le_of_ble_eq_true rfl⟩) (kPreV hG hP hD [1, 2] rfl (by decide) 0 3 rfl rfl rfl) rfl rfl hl.1 rfl (lv_room (Nat.le_of_ble_eq_true rfl)) dX7_written_23 ⟨Nat.le_of_ble_eq_true rfl, Nat.le_of_ble_eq_true rfl⟩) hA hP hD hS [1, 2] [0, 3, 4] rfl rfl (by decide) (by decide) (fun r_4 u_r_4 H locs wr_4 hP hD hS => ?_)
      have hP : va_P D vwCl [(h0, .inr (7, [.ref aS, .ref aA, .ref aU, .ref aX, .ref aW, .int 0, .int 0, .int 0, .int 0, .int 0, .long 0])), (aW, .inr (2, [.ref bW, .int 0])), (bW, .inl (cB, 11, .inl (fun _ => 0))), (aS, .inr (3, [.ref bS])), (bS, .inl (cI, 512, .inl (fun _ => 0)))] H := hP
      have hD : va_D A [(h0, .inr (7, [.ref aS, .ref aA, .ref aU, .ref aX, .ref aW, .int 0, .int 0, .int 0, .int 0, .int 0, .long 0])), (aW, .inr (2, [.ref bW, .int 0])), (bW, .inl (cB, 11, .inl (fun _ => 0))), (aS, .inr (3, [.ref bS])), (bS, .inl (cI, 512, .inl (fun _ => 0)))] := hD
      try dsimp only at wr_4
      subst wr_4
      refine kCallVd (wr := [(h0, .inr (7, [.ref aS, .ref aA, .ref aU, .ref aX, .ref aW, .int 0, .int 0, .int 0, .int 0, .int 0, .long 0])), (aS, .inr (3, [.ref bS])), (bS, .inl (cI, 512, .inl (fun _ => 0)))]) (va_runV (As := [.int n, .int 0]) (rest := []) ⟨hx, hb, hml, hown, hts⟩ (c_writeAct l D cI cL cB cZ cT _ aW bW 0 n ⟨by omega, by omega⟩) (cwV 2 hts gX7_written_X2_writeAct rfl rfl rfl (by decide +kernel) ⟨Nat.le_of_ble_eq_true rfl, Nat.le_of_ble_eq_true rfl⟩) (kPreV hG hP hD [1, 2] rfl (by decide) 0 2 rfl rfl rfl) rfl rfl hl.1 rfl (lv_room (Nat.le_of_ble_eq_true rfl)) dX7_written_26 ⟨Nat.le_of_ble_eq_true rfl, Nat.le_of_ble_eq_true rfl⟩) hA hP hD hS [1, 2] [0, 3, 4] rfl rfl (by decide) (by decide) (fun _ u_r_5 H locs wr_5 hP hD hS => ?_)
      have hP : va_P D vwCl [(h0, .inr (7, [.ref aS, .ref aA, .ref aU, .ref aX, .ref aW, .int 0, .int 0, .int 0, .int 0, .int 0, .long 0])), (aS, .inr (3, [.ref bS])), (bS, .inl (cI, 512, .inl (fun _ => 0))), (aW, .inr (2, [.ref bW, .int (kLn n)])), (bW, .inl (cB, 11, .inl (kRw n)))] H := hP
      have hD : va_D A [(h0, .inr (7, [.ref aS, .ref aA, .ref aU, .ref aX, .ref aW, .int 0, .int 0, .int 0, .int 0, .int 0, .long 0])), (aS, .inr (3, [.ref bS])), (bS, .inl (cI, 512, .inl (fun _ => 0))), (aW, .inr (2, [.ref bW, .int (kLn n)])), (bW, .inl (cB, 11, .inl (kRw n)))] := hD
      try dsimp only at wr_5
      refine lv_aload_n hx hb dX7_written_29 rfl (lv_at hl 0 rfl) ?_
      refine va_get (D := D) (ci := 7) (v := .ref aW) (C := RX7) (T := TX7) (N := 11) hx hb hts iX7_written_X7 hown hK hP 0 rfl rfl 4 (by decide) (hts (.fieldLink RX7 40 "TapeCalculator" "writer" "LTapeCalculator$LineWriter;") (List.mem_of_getElem? (i := 1) rfl)) (fun _ h9 => h9) rfl dX7_written_30 ?_
      refine lv_iload_n hx hb dX7_written_33 rfl (lv_at hl 2 rfl) ?_
      refine kCallI (wr := [(h0, .inr (7, [.ref aS, .ref aA, .ref aU, .ref aX, .ref aW, .int 0, .int 0, .int 0, .int 0, .int 0, .long 0])), (aS, .inr (3, [.ref bS])), (bS, .inl (cI, 512, .inl (fun _ => 0)))]) (va_runV (As := [.int i]) (rest := []) ⟨hx, hb, hml, hown, hts⟩ (c_byteAt l D cI cL cB cZ cT _ aW bW (kRw n) (kLn n) i (kLn_in n)) (cwV 1 hts gX7_written_X2_byteAt rfl rfl rfl (by decide +kernel) ⟨Nat.le_of_ble_eq_true rfl, Nat.le_of_ble_eq_true rfl⟩) (kPreV hG hP hD [3, 4] rfl (by decide) 0 2 rfl rfl rfl) rfl rfl hl.1 rfl (lv_room (Nat.le_of_ble_eq_true rfl)) dX7_written_34 ⟨Nat.le_of_ble_eq_true rfl, Nat.le_of_ble_eq_true rfl⟩) hA hP hD hS [3, 4] [0, 1, 2] rfl rfl (by decide) (by decide) (fun r_6 u_r_6 H locs wr_6 hP hD hS => ?_)
      have hP : va_P D vwCl [(h0, .inr (7, [.ref aS, .ref aA, .ref aU, .ref aX, .ref aW, .int 0, .int 0, .int 0, .int 0, .int 0, .long 0])), (aS, .inr (3, [.ref bS])), (bS, .inl (cI, 512, .inl (fun _ => 0))), (aW, .inr (2, [.ref bW, .int (kLn n)])), (bW, .inl (cB, 11, .inl (kRw n)))] H := hP
      have hD : va_D A [(h0, .inr (7, [.ref aS, .ref aA, .ref aU, .ref aX, .ref aW, .int 0, .int 0, .int 0, .int 0, .int 0, .long 0])), (aS, .inr (3, [.ref bS])), (bS, .inl (cI, 512, .inl (fun _ => 0))), (aW, .inr (2, [.ref bW, .int (kLn n)])), (bW, .inl (cB, 11, .inl (kRw n)))] := hD
      try dsimp only at wr_6
      subst wr_6
      refine kIret (u := ((kLn n), (kRw n))) hx hb hr rfl hlocks hS dX7_written_37 ?_ (hP.sub [0, 1, 2, 3, 4] rfl) (hD.sub [0, 1, 2, 3, 4] (by decide) rfl)
      first
        | exact (kif_t (by omega)).symm
        | exact (kif_f (by omega)).symm
    · have t_8_2 := c_8_2
      try simp only [kb_eq0, kb_ne0, lg_cmp_lt, lg_cmp_le, lg_cmp_gt, lg_cmp_ge, lg_cmp_eq] at t_8_2
      try simp only [Int32.lt_iff_toInt_lt, Int32.le_iff_toInt_le, ← Int32.toInt_inj, Int64.lt_iff_toInt_lt, Int64.le_iff_toInt_le, ← Int64.toInt_inj, Int32.toInt_toInt64, Int32.reduceToInt, Int64.reduceToInt] at t_8_2
      refine lv_iconst (v := (-1)) hx hb dX7_written_11 (by decide) ?_
      refine kIret (u := (0, (fun _ => 0))) hx hb hr rfl hlocks hS dX7_written_12 ?_ (hP.sub [0, 1, 2, 3, 4] rfl) (hD.sub [0, 1, 2, 3, 4] (by decide) rfl)
      first
        | exact (kif_t (by omega)).symm
        | exact (kif_f (by omega)).symm
