set_option maxRecDepth 100000 in
theorem iX8_feed_X8 : ∀ w ∈ wsX80, w ∈ wsX8_feed := fun w h => (goodIn_r (big := wsX8_feed) wsX80 [8, 9, 10, 11, 12, 13, 14, 15, 16, 17, 18, 19, 20, 21, 22, 23, 24, 25, 26, 27, 28, 29, 30, 31, 32, 33, 34, 35, 36, 37, 38] rfl (by decide +kernel) w h).1
set_option maxRecDepth 100000 in
set_option maxHeartbeats 4000000 in
theorem r_feed (l : Launch) (D : va_G) (cI cL cB cZ cT : ClassId) (sz : Nat) (m0 mH mI mJ mS mD mX mA mB mW mL : Nat) (v : Int64) (n : Int32) : kM (S := (Int32 × (Nat → Int32))) l yX8_feed wsX8_feed ({ frames := 1, cells := 0, slots := 0, locals := 25 }) D (kT cI cL cB cZ cT) [.ref m0, .long v, .int n] [(m0, .inr (8, [.ref mH, .int 0, .long 0, .int 0, .long 0, .int 0, .int 0, .int 0, .int 0, .int 0, .int 0, .long 0, .int 0, .int 0, .ref mI, .ref mJ, .ref mS, .ref mD, .int 0, .int 0, .int 0, .long 0, .ref mX, .int 0, .int 0, .int 0, .ref mA, .ref mB, .ref mW, .ref mL, .int 0])), (mX, .inl (cB, 2000, .inl (fun _ => 0)))] sz eI (fun r _ => r = (kif (1 ≤ n.toInt ∧ n.toInt ≤ 8) n (-1))) (fun u => [(m0, .inr (8, [.ref mH, .int 0, .long 0, .int 0, .long 0, .int 0, .int 0, .int 0, .int 0, .int 0, .int 0, .long 0, .int 0, .int 0, .ref mI, .ref mJ, .ref mS, .ref mD, .int 0, .int 0, .int 0, .long 0, .ref mX, .int u.1, .int 0, .int 0, .ref mA, .ref mB, .ref mW, .ref mL, .int 0])), (mX, .inl (cB, 2000, .inl u.2))]) 0 0 := by
  refine kStart (cc := cX8_feed) (maxL := 5) (ret := (some .int)) (own := RX8) (by decide) rfl rfl (Nat.le_of_ble_eq_true rfl) ?_
  intro p e s m args below meth c A ls hx hb hr hml hown hts hlocks hnm hsz hA hG hP hD hS hl
  have hK := hG.1
  have hl : lv_has ls 5 [(0, .ref m0), (1, .long v), (3, .int n)] := hl
  rcases ksw_1_8 n with hsw | rfl | rfl | rfl | rfl | rfl | rfl | rfl | rfl
  · refine lv_iload_n hx hb dX8_feed_0 rfl (lv_at hl 2 rfl) ?_
    refine lv_i2l hx hb dX8_feed_1 rfl ?_
    refine lv_lconst (v := 1) hx hb dX8_feed_2 (by decide) ?_
    refine lv_ldc2 (v := 8) hx hb hown (hts (.constantLong RX8 241 (8)) (List.mem_of_getElem? (i := 1) rfl)) dX8_feed_3 ?_
    refine kCallI (wr := [(m0, .inr (8, [.ref mH, .int 0, .long 0, .int 0, .long 0, .int 0, .int 0, .int 0, .int 0, .int 0, .int 0, .long 0, .int 0, .int 0, .ref mI, .ref mJ, .ref mS, .ref mD, .int 0, .int 0, .int 0, .long 0, .ref mX, .int 0, .int 0, .int 0, .ref mA, .ref mB, .ref mW, .ref mL, .int 0])), (mX, .inl (cB, 2000, .inl (fun _ => 0)))]) (va_runS (As := [.long n.toInt64, .long 1, .long 8]) (rest := []) ⟨hx, hb, hml, hown, hts⟩ (r_in l D cI cL cB cZ cT _ (n.toInt64) 1 8) (va_cwS 3 hts gX8_feed_X8_in rfl rfl rfl (by decide +kernel) ⟨Nat.le_of_ble_eq_true rfl, Nat.le_of_ble_eq_true rfl⟩) (kPreS hG hP hD [] rfl (by decide)) rfl rfl hl.1 rfl (lv_room (Nat.le_of_ble_eq_true rfl)) dX8_feed_6 ⟨Nat.le_of_ble_eq_true rfl, Nat.le_of_ble_eq_true rfl⟩) hA hP hD hS [] [0, 1] rfl rfl (by decide) (by decide) (fun r_1 u_r_1 H locs wr_1 hP hD hS => ?_)
    have hP : va_P D vwCl [(m0, .inr (8, [.ref mH, .int 0, .long 0, .int 0, .long 0, .int 0, .int 0, .int 0, .int 0, .int 0, .int 0, .long 0, .int 0, .int 0, .ref mI, .ref mJ, .ref mS, .ref mD, .int 0, .int 0, .int 0, .long 0, .ref mX, .int 0, .int 0, .int 0, .ref mA, .ref mB, .ref mW, .ref mL, .int 0])), (mX, .inl (cB, 2000, .inl (fun _ => 0)))] H := hP
    have hD : va_D A [(m0, .inr (8, [.ref mH, .int 0, .long 0, .int 0, .long 0, .int 0, .int 0, .int 0, .int 0, .int 0, .int 0, .long 0, .int 0, .int 0, .ref mI, .ref mJ, .ref mS, .ref mD, .int 0, .int 0, .int 0, .long 0, .ref mX, .int 0, .int 0, .int 0, .ref mA, .ref mB, .ref mW, .ref mL, .int 0])), (mX, .inl (cB, 2000, .inl (fun _ => 0)))] := hD
    try dsimp only at wr_1
    subst wr_1
    refine lv_if_ne (tgt := 14) hx hb dX8_feed_9 (by decide) (fun c_9_1 => ?_) (fun c_9_1 => ?_)
    · have t_9_1 := c_9_1
      try simp only [kb_eq0, kb_ne0, lg_cmp_lt, lg_cmp_le, lg_cmp_gt, lg_cmp_ge, lg_cmp_eq] at t_9_1
      try simp only [Int32.lt_iff_toInt_lt, Int32.le_iff_toInt_le, ← Int32.toInt_inj, Int64.lt_iff_toInt_lt, Int64.le_iff_toInt_le, ← Int64.toInt_inj, Int32.toInt_toInt64, Int32.reduceToInt, Int64.reduceToInt] at t_9_1
      omega
    · have t_9_1 := c_9_1
      try simp only [kb_eq0, kb_ne0, lg_cmp_lt, lg_cmp_le, lg_cmp_gt, lg_cmp_ge, lg_cmp_eq] at t_9_1
      try simp only [Int32.lt_iff_toInt_lt, Int32.le_iff_toInt_le, ← Int32.toInt_inj, Int64.lt_iff_toInt_lt, Int64.le_iff_toInt_le, ← Int64.toInt_inj, Int32.toInt_toInt64, Int32.reduceToInt, Int64.reduceToInt] at t_9_1
      refine lv_iconst (v := (-1)) hx hb dX8_feed_12 (by decide) ?_
      refine kIret (u := (0, (fun _ => 0))) hx hb hr rfl hlocks hS dX8_feed_13 ?_ (hP.sub [0, 1] rfl) (hD.sub [0, 1] (by decide) rfl)
      first
        | exact (kif_t (by decide)).symm
        | exact (kif_t (by omega)).symm
        | exact (kif_f (by omega)).symm
  · refine lv_iload_n hx hb dX8_feed_0 rfl (lv_at hl 2 rfl) ?_
    refine lv_i2l hx hb dX8_feed_1 rfl ?_
    refine lv_topl (fun x_3 ex_3 => ?_)
    obtain rfl : x_3 = 1 := ex_3.trans (by decide)
    refine lv_lconst (v := 1) hx hb dX8_feed_2 (by decide) ?_
    refine lv_ldc2 (v := 8) hx hb hown (hts (.constantLong RX8 241 (8)) (List.mem_of_getElem? (i := 1) rfl)) dX8_feed_3 ?_
    refine kCallI (wr := [(m0, .inr (8, [.ref mH, .int 0, .long 0, .int 0, .long 0, .int 0, .int 0, .int 0, .int 0, .int 0, .int 0, .long 0, .int 0, .int 0, .ref mI, .ref mJ, .ref mS, .ref mD, .int 0, .int 0, .int 0, .long 0, .ref mX, .int 0, .int 0, .int 0, .ref mA, .ref mB, .ref mW, .ref mL, .int 0])), (mX, .inl (cB, 2000, .inl (fun _ => 0)))]) (va_runS (As := [.long 1, .long 1, .long 8]) (rest := []) ⟨hx, hb, hml, hown, hts⟩ (r_in l D cI cL cB cZ cT _ 1 1 8) (va_cwS 3 hts gX8_feed_X8_in rfl rfl rfl (by decide +kernel) ⟨Nat.le_of_ble_eq_true rfl, Nat.le_of_ble_eq_true rfl⟩) (kPreS hG hP hD [] rfl (by decide)) rfl rfl hl.1 rfl (lv_room (Nat.le_of_ble_eq_true rfl)) dX8_feed_6 ⟨Nat.le_of_ble_eq_true rfl, Nat.le_of_ble_eq_true rfl⟩) hA hP hD hS [] [0, 1] rfl rfl (by decide) (by decide) (fun r_4 u_r_4 H locs wr_4 hP hD hS => ?_)
    have hP : va_P D vwCl [(m0, .inr (8, [.ref mH, .int 0, .long 0, .int 0, .long 0, .int 0, .int 0, .int 0, .int 0, .int 0, .int 0, .long 0, .int 0, .int 0, .ref mI, .ref mJ, .ref mS, .ref mD, .int 0, .int 0, .int 0, .long 0, .ref mX, .int 0, .int 0, .int 0, .ref mA, .ref mB, .ref mW, .ref mL, .int 0])), (mX, .inl (cB, 2000, .inl (fun _ => 0)))] H := hP
    have hD : va_D A [(m0, .inr (8, [.ref mH, .int 0, .long 0, .int 0, .long 0, .int 0, .int 0, .int 0, .int 0, .int 0, .int 0, .long 0, .int 0, .int 0, .ref mI, .ref mJ, .ref mS, .ref mD, .int 0, .int 0, .int 0, .long 0, .ref mX, .int 0, .int 0, .int 0, .ref mA, .ref mB, .ref mW, .ref mL, .int 0])), (mX, .inl (cB, 2000, .inl (fun _ => 0)))] := hD
    try dsimp only at wr_4
    subst wr_4
    refine lv_if_ne (tgt := 14) hx hb dX8_feed_9 (by decide) (fun c_9_4 => ?_) (fun c_9_4 => ?_)
    · have t_9_4 := c_9_4
      try simp only [kb_eq0, kb_ne0, lg_cmp_lt, lg_cmp_le, lg_cmp_gt, lg_cmp_ge, lg_cmp_eq] at t_9_4
      try simp only [Int32.lt_iff_toInt_lt, Int32.le_iff_toInt_le, ← Int32.toInt_inj, Int64.lt_iff_toInt_lt, Int64.le_iff_toInt_le, ← Int64.toInt_inj, Int32.toInt_toInt64, Int32.reduceToInt, Int64.reduceToInt] at t_9_4
      refine lv_aload_n hx hb dX8_feed_14 rfl (lv_at hl 0 rfl) ?_
      refine va_get (D := D) (ci := 8) (v := .int 0) (C := RX8) (T := TX8) (N := 31) hx hb hts iX8_feed_X8 hown hK hP 0 rfl rfl 23 (by decide) (hts (.fieldLink RX8 243 "TapeCalculatorModel" "textSize" "I") (List.mem_of_getElem? (i := 2) rfl)) (fun _ h9 => h9) rfl dX8_feed_15 ?_
      refine lv_iload_n hx hb dX8_feed_18 rfl (lv_at hl 2 rfl) ?_
      refine lv_iadd hx hb dX8_feed_19 ?_
      refine lv_topi (fun x_6 ex_6 => ?_)
      obtain rfl : x_6 = 1 := ex_6.trans (by decide)
      refine lv_sipush (v := 2000) hx hb dX8_feed_20 (by decide) ?_
      refine lv_icmp_le (tgt := 29) hx hb dX8_feed_23 (by decide) (fun c_23_6 => ?_) (fun c_23_6 => ?_)
      · have t_23_6 := c_23_6
        try simp only [kb_eq0, kb_ne0, lg_cmp_lt, lg_cmp_le, lg_cmp_gt, lg_cmp_ge, lg_cmp_eq] at t_23_6
        try simp only [Int32.lt_iff_toInt_lt, Int32.le_iff_toInt_le, ← Int32.toInt_inj, Int64.lt_iff_toInt_lt, Int64.le_iff_toInt_le, ← Int64.toInt_inj, Int32.toInt_toInt64, Int32.reduceToInt, Int64.reduceToInt] at t_23_6
        refine lv_iconst (v := 0) hx hb dX8_feed_29 (by decide) ?_
        refine lv_istore (lv' := [(4, .int 0), (0, .ref m0), (1, .long v), (3, .int 1)]) hx hb dX8_feed_30 hl (by decide) rfl (fun ls hl => ?_)
        refine lv_iload hx hb dX8_feed_32 (lv_at hl 0 rfl) ?_
        refine lv_iload_n hx hb dX8_feed_34 rfl (lv_at hl 3 rfl) ?_
        refine lv_icmp_ge (tgt := 72) hx hb dX8_feed_35 (by decide) (fun c_35_7 => ?_) (fun c_35_7 => ?_)
        · exact absurd c_35_7 (by decide)
        · have t_35_7 := c_35_7
          try simp only [kb_eq0, kb_ne0, lg_cmp_lt, lg_cmp_le, lg_cmp_gt, lg_cmp_ge, lg_cmp_eq] at t_35_7
          try simp only [Int32.lt_iff_toInt_lt, Int32.le_iff_toInt_le, ← Int32.toInt_inj, Int64.lt_iff_toInt_lt, Int64.le_iff_toInt_le, ← Int64.toInt_inj, Int32.toInt_toInt64, Int32.reduceToInt, Int64.reduceToInt] at t_35_7
          refine lv_aload_n hx hb dX8_feed_38 rfl (lv_at hl 1 rfl) ?_
          refine va_get (D := D) (ci := 8) (v := .ref mX) (C := RX8) (T := TX8) (N := 31) hx hb hts iX8_feed_X8 hown hK hP 0 rfl rfl 22 (by decide) (hts (.fieldLink RX8 26 "TapeCalculatorModel" "text" "[B") (List.mem_of_getElem? (i := 3) rfl)) (fun _ h9 => h9) rfl dX8_feed_39 ?_
          refine lv_aload_n hx hb dX8_feed_42 rfl (lv_at hl 1 rfl) ?_
          refine va_get (D := D) (ci := 8) (v := .int 0) (C := RX8) (T := TX8) (N := 31) hx hb hts iX8_feed_X8 hown hK hP 0 rfl rfl 23 (by decide) (hts (.fieldLink RX8 243 "TapeCalculatorModel" "textSize" "I") (List.mem_of_getElem? (i := 2) rfl)) (fun _ h9 => h9) rfl dX8_feed_43 ?_
          refine lv_lload_n hx hb dX8_feed_46 rfl (lv_at hl 2 rfl) ?_
          refine lv_bipush (v := 8) hx hb dX8_feed_47 (by decide) ?_
          refine lv_iload hx hb dX8_feed_49 (lv_at hl 0 rfl) ?_
          refine lv_imul hx hb dX8_feed_51 ?_
          refine lv_topi (fun x_9 ex_9 => ?_)
          obtain rfl : x_9 = 0 := ex_9.trans (by decide)
          refine lv_lshr hx hb dX8_feed_52 rfl ?_
          refine lv_l2i hx hb dX8_feed_53 rfl ?_
          refine lv_i2b hx hb dX8_feed_54 rfl ?_
          refine va_bast hx hb hK hP hD hS 1 2 rfl rfl (vp_in_iff.mpr (by decide)) dX8_feed_55 (fun H locs hP hD hS => ?_)
          have hP : va_P D vwCl [(m0, .inr (8, [.ref mH, .int 0, .long 0, .int 0, .long 0, .int 0, .int 0, .int 0, .int 0, .int 0, .int 0, .long 0, .int 0, .int 0, .ref mI, .ref mJ, .ref mS, .ref mD, .int 0, .int 0, .int 0, .long 0, .ref mX, .int 0, .int 0, .int 0, .ref mA, .ref mB, .ref mW, .ref mL, .int 0])), (mX, .inl (cB, 2000, .inl (upd (fun _ => 0) (0 : Int32).toNatClampNeg (vp_nar .byte (v >>> ((0 : Int32).toInt64 &&& 63)).toInt32.toInt8.toInt32))))] H := hP
          have hD : va_D A [(m0, .inr (8, [.ref mH, .int 0, .long 0, .int 0, .long 0, .int 0, .int 0, .int 0, .int 0, .int 0, .int 0, .long 0, .int 0, .int 0, .ref mI, .ref mJ, .ref mS, .ref mD, .int 0, .int 0, .int 0, .long 0, .ref mX, .int 0, .int 0, .int 0, .ref mA, .ref mB, .ref mW, .ref mL, .int 0])), (mX, .inl (cB, 2000, .inl (upd (fun _ => 0) (0 : Int32).toNatClampNeg (vp_nar .byte (v >>> ((0 : Int32).toInt64 &&& 63)).toInt32.toInt8.toInt32))))] := hD
          refine lv_aload_n hx hb dX8_feed_56 rfl (lv_at hl 1 rfl) ?_
          refine lv_dup hx hb dX8_feed_57 rfl ?_
          refine va_get (D := D) (ci := 8) (v := .int 0) (C := RX8) (T := TX8) (N := 31) hx hb hts iX8_feed_X8 hown hK hP 0 rfl rfl 23 (by decide) (hts (.fieldLink RX8 243 "TapeCalculatorModel" "textSize" "I") (List.mem_of_getElem? (i := 2) rfl)) (fun _ h9 => h9) rfl dX8_feed_58 ?_
          refine lv_iconst (v := 1) hx hb dX8_feed_61 (by decide) ?_
          refine lv_iadd hx hb dX8_feed_62 ?_
          refine lv_topi (fun x_10 ex_10 => ?_)
          obtain rfl : x_10 = 1 := ex_10.trans (by decide)
          refine va_put (D := D) (ci := 8) (v := .int 1) (ty := .int) (C := RX8) (T := TX8) (N := 31) hx hb hts iX8_feed_X8 tyX8 tyX8_ok nmX8 hown hK hP hD hS 0 rfl rfl 23 (by decide) (hts (.fieldLink RX8 243 "TapeCalculatorModel" "textSize" "I") (List.mem_of_getElem? (i := 2) rfl)) (fun _ h9 => h9) rfl (by decide +kernel) rfl rfl (Nat.le_of_ble_eq_true rfl) dX8_feed_63 (fun H locs hP hD hS => ?_)
          have hP : va_P D vwCl [(m0, .inr (8, [.ref mH, .int 0, .long 0, .int 0, .long 0, .int 0, .int 0, .int 0, .int 0, .int 0, .int 0, .long 0, .int 0, .int 0, .ref mI, .ref mJ, .ref mS, .ref mD, .int 0, .int 0, .int 0, .long 0, .ref mX, .int 1, .int 0, .int 0, .ref mA, .ref mB, .ref mW, .ref mL, .int 0])), (mX, .inl (cB, 2000, .inl (upd (fun _ => 0) (0 : Int32).toNatClampNeg (vp_nar .byte (v >>> ((0 : Int32).toInt64 &&& 63)).toInt32.toInt8.toInt32))))] H := hP
          have hD : va_D A [(m0, .inr (8, [.ref mH, .int 0, .long 0, .int 0, .long 0, .int 0, .int 0, .int 0, .int 0, .int 0, .int 0, .long 0, .int 0, .int 0, .ref mI, .ref mJ, .ref mS, .ref mD, .int 0, .int 0, .int 0, .long 0, .ref mX, .int 1, .int 0, .int 0, .ref mA, .ref mB, .ref mW, .ref mL, .int 0])), (mX, .inl (cB, 2000, .inl (upd (fun _ => 0) (0 : Int32).toNatClampNeg (vp_nar .byte (v >>> ((0 : Int32).toInt64 &&& 63)).toInt32.toInt8.toInt32))))] := hD
          refine lv_iinc (v := 1) (lv' := [(4, .int 1), (0, .ref m0), (1, .long v), (3, .int 1)]) hx hb dX8_feed_66 hl (k := 0) rfl (by decide) (by decide) rfl (fun ls hl => ?_)
          refine lv_goto (tgt := 32) hx hb dX8_feed_69 (by decide) ?_
          refine lv_iload hx hb dX8_feed_32 (lv_at hl 0 rfl) ?_
          refine lv_iload_n hx hb dX8_feed_34 rfl (lv_at hl 3 rfl) ?_
          refine lv_icmp_ge (tgt := 72) hx hb dX8_feed_35 (by decide) (fun c_35_10 => ?_) (fun c_35_10 => ?_)
          · have t_35_10 := c_35_10
            try simp only [kb_eq0, kb_ne0, lg_cmp_lt, lg_cmp_le, lg_cmp_gt, lg_cmp_ge, lg_cmp_eq] at t_35_10
            try simp only [Int32.lt_iff_toInt_lt, Int32.le_iff_toInt_le, ← Int32.toInt_inj, Int64.lt_iff_toInt_lt, Int64.le_iff_toInt_le, ← Int64.toInt_inj, Int32.toInt_toInt64, Int32.reduceToInt, Int64.reduceToInt] at t_35_10
            refine lv_aload_n hx hb dX8_feed_72 rfl (lv_at hl 1 rfl) ?_
            refine va_get (D := D) (ci := 8) (v := .int 1) (C := RX8) (T := TX8) (N := 31) hx hb hts iX8_feed_X8 hown hK hP 0 rfl rfl 23 (by decide) (hts (.fieldLink RX8 243 "TapeCalculatorModel" "textSize" "I") (List.mem_of_getElem? (i := 2) rfl)) (fun _ h9 => h9) rfl dX8_feed_73 ?_
            refine kIret (u := (1, (upd (fun _ => 0) (0 : Int32).toNatClampNeg (vp_nar .byte (v >>> ((0 : Int32).toInt64 &&& 63)).toInt32.toInt8.toInt32)))) hx hb hr rfl hlocks hS dX8_feed_76 ?_ (hP.sub [0, 1] rfl) (hD.sub [0, 1] (by decide) rfl)
            first
              | exact (kif_t (by decide)).symm
              | exact (kif_t (by omega)).symm
              | exact (kif_f (by omega)).symm
          · exact absurd (by decide) c_35_10
      · exact absurd (by decide) c_23_6
    · have t_9_4 := c_9_4
      try simp only [kb_eq0, kb_ne0, lg_cmp_lt, lg_cmp_le, lg_cmp_gt, lg_cmp_ge, lg_cmp_eq] at t_9_4
      try simp only [Int32.lt_iff_toInt_lt, Int32.le_iff_toInt_le, ← Int32.toInt_inj, Int64.lt_iff_toInt_lt, Int64.le_iff_toInt_le, ← Int64.toInt_inj, Int32.toInt_toInt64, Int32.reduceToInt, Int64.reduceToInt] at t_9_4
      omega
  · refine lv_iload_n hx hb dX8_feed_0 rfl (lv_at hl 2 rfl) ?_
    refine lv_i2l hx hb dX8_feed_1 rfl ?_
    refine lv_topl (fun x_12 ex_12 => ?_)
    obtain rfl : x_12 = 2 := ex_12.trans (by decide)
    refine lv_lconst (v := 1) hx hb dX8_feed_2 (by decide) ?_
    refine lv_ldc2 (v := 8) hx hb hown (hts (.constantLong RX8 241 (8)) (List.mem_of_getElem? (i := 1) rfl)) dX8_feed_3 ?_
    refine kCallI (wr := [(m0, .inr (8, [.ref mH, .int 0, .long 0, .int 0, .long 0, .int 0, .int 0, .int 0, .int 0, .int 0, .int 0, .long 0, .int 0, .int 0, .ref mI, .ref mJ, .ref mS, .ref mD, .int 0, .int 0, .int 0, .long 0, .ref mX, .int 0, .int 0, .int 0, .ref mA, .ref mB, .ref mW, .ref mL, .int 0])), (mX, .inl (cB, 2000, .inl (fun _ => 0)))]) (va_runS (As := [.long 2, .long 1, .long 8]) (rest := []) ⟨hx, hb, hml, hown, hts⟩ (r_in l D cI cL cB cZ cT _ 2 1 8) (va_cwS 3 hts gX8_feed_X8_in rfl rfl rfl (by decide +kernel) ⟨Nat.le_of_ble_eq_true rfl, Nat.le_of_ble_eq_true rfl⟩) (kPreS hG hP hD [] rfl (by decide)) rfl rfl hl.1 rfl (lv_room (Nat.le_of_ble_eq_true rfl)) dX8_feed_6 ⟨Nat.le_of_ble_eq_true rfl, Nat.le_of_ble_eq_true rfl⟩) hA hP hD hS [] [0, 1] rfl rfl (by decide) (by decide) (fun r_13 u_r_13 H locs wr_13 hP hD hS => ?_)
    have hP : va_P D vwCl [(m0, .inr (8, [.ref mH, .int 0, .long 0, .int 0, .long 0, .int 0, .int 0, .int 0, .int 0, .int 0, .int 0, .long 0, .int 0, .int 0, .ref mI, .ref mJ, .ref mS, .ref mD, .int 0, .int 0, .int 0, .long 0, .ref mX, .int 0, .int 0, .int 0, .ref mA, .ref mB, .ref mW, .ref mL, .int 0])), (mX, .inl (cB, 2000, .inl (fun _ => 0)))] H := hP
    have hD : va_D A [(m0, .inr (8, [.ref mH, .int 0, .long 0, .int 0, .long 0, .int 0, .int 0, .int 0, .int 0, .int 0, .int 0, .long 0, .int 0, .int 0, .ref mI, .ref mJ, .ref mS, .ref mD, .int 0, .int 0, .int 0, .long 0, .ref mX, .int 0, .int 0, .int 0, .ref mA, .ref mB, .ref mW, .ref mL, .int 0])), (mX, .inl (cB, 2000, .inl (fun _ => 0)))] := hD
    try dsimp only at wr_13
    subst wr_13
    refine lv_if_ne (tgt := 14) hx hb dX8_feed_9 (by decide) (fun c_9_13 => ?_) (fun c_9_13 => ?_)
    · have t_9_13 := c_9_13
      try simp only [kb_eq0, kb_ne0, lg_cmp_lt, lg_cmp_le, lg_cmp_gt, lg_cmp_ge, lg_cmp_eq] at t_9_13
      try simp only [Int32.lt_iff_toInt_lt, Int32.le_iff_toInt_le, ← Int32.toInt_inj, Int64.lt_iff_toInt_lt, Int64.le_iff_toInt_le, ← Int64.toInt_inj, Int32.toInt_toInt64, Int32.reduceToInt, Int64.reduceToInt] at t_9_13
      refine lv_aload_n hx hb dX8_feed_14 rfl (lv_at hl 0 rfl) ?_
      refine va_get (D := D) (ci := 8) (v := .int 0) (C := RX8) (T := TX8) (N := 31) hx hb hts iX8_feed_X8 hown hK hP 0 rfl rfl 23 (by decide) (hts (.fieldLink RX8 243 "TapeCalculatorModel" "textSize" "I") (List.mem_of_getElem? (i := 2) rfl)) (fun _ h9 => h9) rfl dX8_feed_15 ?_
      refine lv_iload_n hx hb dX8_feed_18 rfl (lv_at hl 2 rfl) ?_
      refine lv_iadd hx hb dX8_feed_19 ?_
      refine lv_topi (fun x_15 ex_15 => ?_)
      obtain rfl : x_15 = 2 := ex_15.trans (by decide)
      refine lv_sipush (v := 2000) hx hb dX8_feed_20 (by decide) ?_
      refine lv_icmp_le (tgt := 29) hx hb dX8_feed_23 (by decide) (fun c_23_15 => ?_) (fun c_23_15 => ?_)
      · have t_23_15 := c_23_15
        try simp only [kb_eq0, kb_ne0, lg_cmp_lt, lg_cmp_le, lg_cmp_gt, lg_cmp_ge, lg_cmp_eq] at t_23_15
        try simp only [Int32.lt_iff_toInt_lt, Int32.le_iff_toInt_le, ← Int32.toInt_inj, Int64.lt_iff_toInt_lt, Int64.le_iff_toInt_le, ← Int64.toInt_inj, Int32.toInt_toInt64, Int32.reduceToInt, Int64.reduceToInt] at t_23_15
        refine lv_iconst (v := 0) hx hb dX8_feed_29 (by decide) ?_
        refine lv_istore (lv' := [(4, .int 0), (0, .ref m0), (1, .long v), (3, .int 2)]) hx hb dX8_feed_30 hl (by decide) rfl (fun ls hl => ?_)
        refine lv_iload hx hb dX8_feed_32 (lv_at hl 0 rfl) ?_
        refine lv_iload_n hx hb dX8_feed_34 rfl (lv_at hl 3 rfl) ?_
        refine lv_icmp_ge (tgt := 72) hx hb dX8_feed_35 (by decide) (fun c_35_16 => ?_) (fun c_35_16 => ?_)
        · exact absurd c_35_16 (by decide)
        · have t_35_16 := c_35_16
          try simp only [kb_eq0, kb_ne0, lg_cmp_lt, lg_cmp_le, lg_cmp_gt, lg_cmp_ge, lg_cmp_eq] at t_35_16
          try simp only [Int32.lt_iff_toInt_lt, Int32.le_iff_toInt_le, ← Int32.toInt_inj, Int64.lt_iff_toInt_lt, Int64.le_iff_toInt_le, ← Int64.toInt_inj, Int32.toInt_toInt64, Int32.reduceToInt, Int64.reduceToInt] at t_35_16
          refine lv_aload_n hx hb dX8_feed_38 rfl (lv_at hl 1 rfl) ?_
          refine va_get (D := D) (ci := 8) (v := .ref mX) (C := RX8) (T := TX8) (N := 31) hx hb hts iX8_feed_X8 hown hK hP 0 rfl rfl 22 (by decide) (hts (.fieldLink RX8 26 "TapeCalculatorModel" "text" "[B") (List.mem_of_getElem? (i := 3) rfl)) (fun _ h9 => h9) rfl dX8_feed_39 ?_
          refine lv_aload_n hx hb dX8_feed_42 rfl (lv_at hl 1 rfl) ?_
          refine va_get (D := D) (ci := 8) (v := .int 0) (C := RX8) (T := TX8) (N := 31) hx hb hts iX8_feed_X8 hown hK hP 0 rfl rfl 23 (by decide) (hts (.fieldLink RX8 243 "TapeCalculatorModel" "textSize" "I") (List.mem_of_getElem? (i := 2) rfl)) (fun _ h9 => h9) rfl dX8_feed_43 ?_
          refine lv_lload_n hx hb dX8_feed_46 rfl (lv_at hl 2 rfl) ?_
          refine lv_bipush (v := 8) hx hb dX8_feed_47 (by decide) ?_
          refine lv_iload hx hb dX8_feed_49 (lv_at hl 0 rfl) ?_
          refine lv_imul hx hb dX8_feed_51 ?_
          refine lv_topi (fun x_18 ex_18 => ?_)
          obtain rfl : x_18 = 0 := ex_18.trans (by decide)
          refine lv_lshr hx hb dX8_feed_52 rfl ?_
          refine lv_l2i hx hb dX8_feed_53 rfl ?_
          refine lv_i2b hx hb dX8_feed_54 rfl ?_
          refine va_bast hx hb hK hP hD hS 1 2 rfl rfl (vp_in_iff.mpr (by decide)) dX8_feed_55 (fun H locs hP hD hS => ?_)
          have hP : va_P D vwCl [(m0, .inr (8, [.ref mH, .int 0, .long 0, .int 0, .long 0, .int 0, .int 0, .int 0, .int 0, .int 0, .int 0, .long 0, .int 0, .int 0, .ref mI, .ref mJ, .ref mS, .ref mD, .int 0, .int 0, .int 0, .long 0, .ref mX, .int 0, .int 0, .int 0, .ref mA, .ref mB, .ref mW, .ref mL, .int 0])), (mX, .inl (cB, 2000, .inl (upd (fun _ => 0) (0 : Int32).toNatClampNeg (vp_nar .byte (v >>> ((0 : Int32).toInt64 &&& 63)).toInt32.toInt8.toInt32))))] H := hP
          have hD : va_D A [(m0, .inr (8, [.ref mH, .int 0, .long 0, .int 0, .long 0, .int 0, .int 0, .int 0, .int 0, .int 0, .int 0, .long 0, .int 0, .int 0, .ref mI, .ref mJ, .ref mS, .ref mD, .int 0, .int 0, .int 0, .long 0, .ref mX, .int 0, .int 0, .int 0, .ref mA, .ref mB, .ref mW, .ref mL, .int 0])), (mX, .inl (cB, 2000, .inl (upd (fun _ => 0) (0 : Int32).toNatClampNeg (vp_nar .byte (v >>> ((0 : Int32).toInt64 &&& 63)).toInt32.toInt8.toInt32))))] := hD
          refine lv_aload_n hx hb dX8_feed_56 rfl (lv_at hl 1 rfl) ?_
          refine lv_dup hx hb dX8_feed_57 rfl ?_
          refine va_get (D := D) (ci := 8) (v := .int 0) (C := RX8) (T := TX8) (N := 31) hx hb hts iX8_feed_X8 hown hK hP 0 rfl rfl 23 (by decide) (hts (.fieldLink RX8 243 "TapeCalculatorModel" "textSize" "I") (List.mem_of_getElem? (i := 2) rfl)) (fun _ h9 => h9) rfl dX8_feed_58 ?_
          refine lv_iconst (v := 1) hx hb dX8_feed_61 (by decide) ?_
          refine lv_iadd hx hb dX8_feed_62 ?_
          refine lv_topi (fun x_19 ex_19 => ?_)
          obtain rfl : x_19 = 1 := ex_19.trans (by decide)
          refine va_put (D := D) (ci := 8) (v := .int 1) (ty := .int) (C := RX8) (T := TX8) (N := 31) hx hb hts iX8_feed_X8 tyX8 tyX8_ok nmX8 hown hK hP hD hS 0 rfl rfl 23 (by decide) (hts (.fieldLink RX8 243 "TapeCalculatorModel" "textSize" "I") (List.mem_of_getElem? (i := 2) rfl)) (fun _ h9 => h9) rfl (by decide +kernel) rfl rfl (Nat.le_of_ble_eq_true rfl) dX8_feed_63 (fun H locs hP hD hS => ?_)
          have hP : va_P D vwCl [(m0, .inr (8, [.ref mH, .int 0, .long 0, .int 0, .long 0, .int 0, .int 0, .int 0, .int 0, .int 0, .int 0, .long 0, .int 0, .int 0, .ref mI, .ref mJ, .ref mS, .ref mD, .int 0, .int 0, .int 0, .long 0, .ref mX, .int 1, .int 0, .int 0, .ref mA, .ref mB, .ref mW, .ref mL, .int 0])), (mX, .inl (cB, 2000, .inl (upd (fun _ => 0) (0 : Int32).toNatClampNeg (vp_nar .byte (v >>> ((0 : Int32).toInt64 &&& 63)).toInt32.toInt8.toInt32))))] H := hP
          have hD : va_D A [(m0, .inr (8, [.ref mH, .int 0, .long 0, .int 0, .long 0, .int 0, .int 0, .int 0, .int 0, .int 0, .int 0, .long 0, .int 0, .int 0, .ref mI, .ref mJ, .ref mS, .ref mD, .int 0, .int 0, .int 0, .long 0, .ref mX, .int 1, .int 0, .int 0, .ref mA, .ref mB, .ref mW, .ref mL, .int 0])), (mX, .inl (cB, 2000, .inl (upd (fun _ => 0) (0 : Int32).toNatClampNeg (vp_nar .byte (v >>> ((0 : Int32).toInt64 &&& 63)).toInt32.toInt8.toInt32))))] := hD
          refine lv_iinc (v := 1) (lv' := [(4, .int 1), (0, .ref m0), (1, .long v), (3, .int 2)]) hx hb dX8_feed_66 hl (k := 0) rfl (by decide) (by decide) rfl (fun ls hl => ?_)
          refine lv_goto (tgt := 32) hx hb dX8_feed_69 (by decide) ?_
          refine lv_iload hx hb dX8_feed_32 (lv_at hl 0 rfl) ?_
          refine lv_iload_n hx hb dX8_feed_34 rfl (lv_at hl 3 rfl) ?_
          refine lv_icmp_ge (tgt := 72) hx hb dX8_feed_35 (by decide) (fun c_35_19 => ?_) (fun c_35_19 => ?_)
          · exact absurd c_35_19 (by decide)
          · have t_35_19 := c_35_19
            try simp only [kb_eq0, kb_ne0, lg_cmp_lt, lg_cmp_le, lg_cmp_gt, lg_cmp_ge, lg_cmp_eq] at t_35_19
            try simp only [Int32.lt_iff_toInt_lt, Int32.le_iff_toInt_le, ← Int32.toInt_inj, Int64.lt_iff_toInt_lt, Int64.le_iff_toInt_le, ← Int64.toInt_inj, Int32.toInt_toInt64, Int32.reduceToInt, Int64.reduceToInt] at t_35_19
            refine lv_aload_n hx hb dX8_feed_38 rfl (lv_at hl 1 rfl) ?_
            refine va_get (D := D) (ci := 8) (v := .ref mX) (C := RX8) (T := TX8) (N := 31) hx hb hts iX8_feed_X8 hown hK hP 0 rfl rfl 22 (by decide) (hts (.fieldLink RX8 26 "TapeCalculatorModel" "text" "[B") (List.mem_of_getElem? (i := 3) rfl)) (fun _ h9 => h9) rfl dX8_feed_39 ?_
            refine lv_aload_n hx hb dX8_feed_42 rfl (lv_at hl 1 rfl) ?_
            refine va_get (D := D) (ci := 8) (v := .int 1) (C := RX8) (T := TX8) (N := 31) hx hb hts iX8_feed_X8 hown hK hP 0 rfl rfl 23 (by decide) (hts (.fieldLink RX8 243 "TapeCalculatorModel" "textSize" "I") (List.mem_of_getElem? (i := 2) rfl)) (fun _ h9 => h9) rfl dX8_feed_43 ?_
            refine lv_lload_n hx hb dX8_feed_46 rfl (lv_at hl 2 rfl) ?_
            refine lv_bipush (v := 8) hx hb dX8_feed_47 (by decide) ?_
            refine lv_iload hx hb dX8_feed_49 (lv_at hl 0 rfl) ?_
            refine lv_imul hx hb dX8_feed_51 ?_
            refine lv_topi (fun x_21 ex_21 => ?_)
            obtain rfl : x_21 = 8 := ex_21.trans (by decide)
            refine lv_lshr hx hb dX8_feed_52 rfl ?_
            refine lv_l2i hx hb dX8_feed_53 rfl ?_
            refine lv_i2b hx hb dX8_feed_54 rfl ?_
            refine va_bast hx hb hK hP hD hS 1 2 rfl rfl (vp_in_iff.mpr (by decide)) dX8_feed_55 (fun H locs hP hD hS => ?_)
            have hP : va_P D vwCl [(m0, .inr (8, [.ref mH, .int 0, .long 0, .int 0, .long 0, .int 0, .int 0, .int 0, .int 0, .int 0, .int 0, .long 0, .int 0, .int 0, .ref mI, .ref mJ, .ref mS, .ref mD, .int 0, .int 0, .int 0, .long 0, .ref mX, .int 1, .int 0, .int 0, .ref mA, .ref mB, .ref mW, .ref mL, .int 0])), (mX, .inl (cB, 2000, .inl (upd (upd (fun _ => 0) (0 : Int32).toNatClampNeg (vp_nar .byte (v >>> ((0 : Int32).toInt64 &&& 63)).toInt32.toInt8.toInt32)) (1 : Int32).toNatClampNeg (vp_nar .byte (v >>> ((8 : Int32).toInt64 &&& 63)).toInt32.toInt8.toInt32))))] H := hP
            have hD : va_D A [(m0, .inr (8, [.ref mH, .int 0, .long 0, .int 0, .long 0, .int 0, .int 0, .int 0, .int 0, .int 0, .int 0, .long 0, .int 0, .int 0, .ref mI, .ref mJ, .ref mS, .ref mD, .int 0, .int 0, .int 0, .long 0, .ref mX, .int 1, .int 0, .int 0, .ref mA, .ref mB, .ref mW, .ref mL, .int 0])), (mX, .inl (cB, 2000, .inl (upd (upd (fun _ => 0) (0 : Int32).toNatClampNeg (vp_nar .byte (v >>> ((0 : Int32).toInt64 &&& 63)).toInt32.toInt8.toInt32)) (1 : Int32).toNatClampNeg (vp_nar .byte (v >>> ((8 : Int32).toInt64 &&& 63)).toInt32.toInt8.toInt32))))] := hD
            refine lv_aload_n hx hb dX8_feed_56 rfl (lv_at hl 1 rfl) ?_
            refine lv_dup hx hb dX8_feed_57 rfl ?_
            refine va_get (D := D) (ci := 8) (v := .int 1) (C := RX8) (T := TX8) (N := 31) hx hb hts iX8_feed_X8 hown hK hP 0 rfl rfl 23 (by decide) (hts (.fieldLink RX8 243 "TapeCalculatorModel" "textSize" "I") (List.mem_of_getElem? (i := 2) rfl)) (fun _ h9 => h9) rfl dX8_feed_58 ?_
            refine lv_iconst (v := 1) hx hb dX8_feed_61 (by decide) ?_
            refine lv_iadd hx hb dX8_feed_62 ?_
            refine lv_topi (fun x_22 ex_22 => ?_)
            obtain rfl : x_22 = 2 := ex_22.trans (by decide)
            refine va_put (D := D) (ci := 8) (v := .int 2) (ty := .int) (C := RX8) (T := TX8) (N := 31) hx hb hts iX8_feed_X8 tyX8 tyX8_ok nmX8 hown hK hP hD hS 0 rfl rfl 23 (by decide) (hts (.fieldLink RX8 243 "TapeCalculatorModel" "textSize" "I") (List.mem_of_getElem? (i := 2) rfl)) (fun _ h9 => h9) rfl (by decide +kernel) rfl rfl (Nat.le_of_ble_eq_true rfl) dX8_feed_63 (fun H locs hP hD hS => ?_)
            have hP : va_P D vwCl [(m0, .inr (8, [.ref mH, .int 0, .long 0, .int 0, .long 0, .int 0, .int 0, .int 0, .int 0, .int 0, .int 0, .long 0, .int 0, .int 0, .ref mI, .ref mJ, .ref mS, .ref mD, .int 0, .int 0, .int 0, .long 0, .ref mX, .int 2, .int 0, .int 0, .ref mA, .ref mB, .ref mW, .ref mL, .int 0])), (mX, .inl (cB, 2000, .inl (upd (upd (fun _ => 0) (0 : Int32).toNatClampNeg (vp_nar .byte (v >>> ((0 : Int32).toInt64 &&& 63)).toInt32.toInt8.toInt32)) (1 : Int32).toNatClampNeg (vp_nar .byte (v >>> ((8 : Int32).toInt64 &&& 63)).toInt32.toInt8.toInt32))))] H := hP
            have hD : va_D A [(m0, .inr (8, [.ref mH, .int 0, .long 0, .int 0, .long 0, .int 0, .int 0, .int 0, .int 0, .int 0, .int 0, .long 0, .int 0, .int 0, .ref mI, .ref mJ, .ref mS, .ref mD, .int 0, .int 0, .int 0, .long 0, .ref mX, .int 2, .int 0, .int 0, .ref mA, .ref mB, .ref mW, .ref mL, .int 0])), (mX, .inl (cB, 2000, .inl (upd (upd (fun _ => 0) (0 : Int32).toNatClampNeg (vp_nar .byte (v >>> ((0 : Int32).toInt64 &&& 63)).toInt32.toInt8.toInt32)) (1 : Int32).toNatClampNeg (vp_nar .byte (v >>> ((8 : Int32).toInt64 &&& 63)).toInt32.toInt8.toInt32))))] := hD
            refine lv_iinc (v := 2) (lv' := [(4, .int 2), (0, .ref m0), (1, .long v), (3, .int 2)]) hx hb dX8_feed_66 hl (k := 0) rfl (by decide) (by decide) rfl (fun ls hl => ?_)
            refine lv_goto (tgt := 32) hx hb dX8_feed_69 (by decide) ?_
            refine lv_iload hx hb dX8_feed_32 (lv_at hl 0 rfl) ?_
            refine lv_iload_n hx hb dX8_feed_34 rfl (lv_at hl 3 rfl) ?_
            refine lv_icmp_ge (tgt := 72) hx hb dX8_feed_35 (by decide) (fun c_35_22 => ?_) (fun c_35_22 => ?_)
            · have t_35_22 := c_35_22
              try simp only [kb_eq0, kb_ne0, lg_cmp_lt, lg_cmp_le, lg_cmp_gt, lg_cmp_ge, lg_cmp_eq] at t_35_22
              try simp only [Int32.lt_iff_toInt_lt, Int32.le_iff_toInt_le, ← Int32.toInt_inj, Int64.lt_iff_toInt_lt, Int64.le_iff_toInt_le, ← Int64.toInt_inj, Int32.toInt_toInt64, Int32.reduceToInt, Int64.reduceToInt] at t_35_22
              refine lv_aload_n hx hb dX8_feed_72 rfl (lv_at hl 1 rfl) ?_
              refine va_get (D := D) (ci := 8) (v := .int 2) (C := RX8) (T := TX8) (N := 31) hx hb hts iX8_feed_X8 hown hK hP 0 rfl rfl 23 (by decide) (hts (.fieldLink RX8 243 "TapeCalculatorModel" "textSize" "I") (List.mem_of_getElem? (i := 2) rfl)) (fun _ h9 => h9) rfl dX8_feed_73 ?_
              refine kIret (u := (2, (upd (upd (fun _ => 0) (0 : Int32).toNatClampNeg (vp_nar .byte (v >>> ((0 : Int32).toInt64 &&& 63)).toInt32.toInt8.toInt32)) (1 : Int32).toNatClampNeg (vp_nar .byte (v >>> ((8 : Int32).toInt64 &&& 63)).toInt32.toInt8.toInt32)))) hx hb hr rfl hlocks hS dX8_feed_76 ?_ (hP.sub [0, 1] rfl) (hD.sub [0, 1] (by decide) rfl)
              first
                | exact (kif_t (by decide)).symm
                | exact (kif_t (by omega)).symm
                | exact (kif_f (by omega)).symm
            · exact absurd (by decide) c_35_22
      · exact absurd (by decide) c_23_15
    · have t_9_13 := c_9_13
      try simp only [kb_eq0, kb_ne0, lg_cmp_lt, lg_cmp_le, lg_cmp_gt, lg_cmp_ge, lg_cmp_eq] at t_9_13
      try simp only [Int32.lt_iff_toInt_lt, Int32.le_iff_toInt_le, ← Int32.toInt_inj, Int64.lt_iff_toInt_lt, Int64.le_iff_toInt_le, ← Int64.toInt_inj, Int32.toInt_toInt64, Int32.reduceToInt, Int64.reduceToInt] at t_9_13
      omega
  · refine lv_iload_n hx hb dX8_feed_0 rfl (lv_at hl 2 rfl) ?_
    refine lv_i2l hx hb dX8_feed_1 rfl ?_
    refine lv_topl (fun x_24 ex_24 => ?_)
    obtain rfl : x_24 = 3 := ex_24.trans (by decide)
    refine lv_lconst (v := 1) hx hb dX8_feed_2 (by decide) ?_
    refine lv_ldc2 (v := 8) hx hb hown (hts (.constantLong RX8 241 (8)) (List.mem_of_getElem? (i := 1) rfl)) dX8_feed_3 ?_
    refine kCallI (wr := [(m0, .inr (8, [.ref mH, .int 0, .long 0, .int 0, .long 0, .int 0, .int 0, .int 0, .int 0, .int 0, .int 0, .long 0, .int 0, .int 0, .ref mI, .ref mJ, .ref mS, .ref mD, .int 0, .int 0, .int 0, .long 0, .ref mX, .int 0, .int 0, .int 0, .ref mA, .ref mB, .ref mW, .ref mL, .int 0])), (mX, .inl (cB, 2000, .inl (fun _ => 0)))]) (va_runS (As := [.long 3, .long 1, .long 8]) (rest := []) ⟨hx, hb, hml, hown, hts⟩ (r_in l D cI cL cB cZ cT _ 3 1 8) (va_cwS 3 hts gX8_feed_X8_in rfl rfl rfl (by decide +kernel) ⟨Nat.le_of_ble_eq_true rfl, Nat.le_of_ble_eq_true rfl⟩) (kPreS hG hP hD [] rfl (by decide)) rfl rfl hl.1 rfl (lv_room (Nat.le_of_ble_eq_true rfl)) dX8_feed_6 ⟨Nat.le_of_ble_eq_true rfl, Nat.le_of_ble_eq_true rfl⟩) hA hP hD hS [] [0, 1] rfl rfl (by decide) (by decide) (fun r_25 u_r_25 H locs wr_25 hP hD hS => ?_)
    have hP : va_P D vwCl [(m0, .inr (8, [.ref mH, .int 0, .long 0, .int 0, .long 0, .int 0, .int 0, .int 0, .int 0, .int 0, .int 0, .long 0, .int 0, .int 0, .ref mI, .ref mJ, .ref mS, .ref mD, .int 0, .int 0, .int 0, .long 0, .ref mX, .int 0, .int 0, .int 0, .ref mA, .ref mB, .ref mW, .ref mL, .int 0])), (mX, .inl (cB, 2000, .inl (fun _ => 0)))] H := hP
    have hD : va_D A [(m0, .inr (8, [.ref mH, .int 0, .long 0, .int 0, .long 0, .int 0, .int 0, .int 0, .int 0, .int 0, .int 0, .long 0, .int 0, .int 0, .ref mI, .ref mJ, .ref mS, .ref mD, .int 0, .int 0, .int 0, .long 0, .ref mX, .int 0, .int 0, .int 0, .ref mA, .ref mB, .ref mW, .ref mL, .int 0])), (mX, .inl (cB, 2000, .inl (fun _ => 0)))] := hD
    try dsimp only at wr_25
    subst wr_25
    refine lv_if_ne (tgt := 14) hx hb dX8_feed_9 (by decide) (fun c_9_25 => ?_) (fun c_9_25 => ?_)
    · have t_9_25 := c_9_25
      try simp only [kb_eq0, kb_ne0, lg_cmp_lt, lg_cmp_le, lg_cmp_gt, lg_cmp_ge, lg_cmp_eq] at t_9_25
      try simp only [Int32.lt_iff_toInt_lt, Int32.le_iff_toInt_le, ← Int32.toInt_inj, Int64.lt_iff_toInt_lt, Int64.le_iff_toInt_le, ← Int64.toInt_inj, Int32.toInt_toInt64, Int32.reduceToInt, Int64.reduceToInt] at t_9_25
      refine lv_aload_n hx hb dX8_feed_14 rfl (lv_at hl 0 rfl) ?_
      refine va_get (D := D) (ci := 8) (v := .int 0) (C := RX8) (T := TX8) (N := 31) hx hb hts iX8_feed_X8 hown hK hP 0 rfl rfl 23 (by decide) (hts (.fieldLink RX8 243 "TapeCalculatorModel" "textSize" "I") (List.mem_of_getElem? (i := 2) rfl)) (fun _ h9 => h9) rfl dX8_feed_15 ?_
      refine lv_iload_n hx hb dX8_feed_18 rfl (lv_at hl 2 rfl) ?_
      refine lv_iadd hx hb dX8_feed_19 ?_
      refine lv_topi (fun x_27 ex_27 => ?_)
      obtain rfl : x_27 = 3 := ex_27.trans (by decide)
      refine lv_sipush (v := 2000) hx hb dX8_feed_20 (by decide) ?_
      refine lv_icmp_le (tgt := 29) hx hb dX8_feed_23 (by decide) (fun c_23_27 => ?_) (fun c_23_27 => ?_)
      · have t_23_27 := c_23_27
        try simp only [kb_eq0, kb_ne0, lg_cmp_lt, lg_cmp_le, lg_cmp_gt, lg_cmp_ge, lg_cmp_eq] at t_23_27
        try simp only [Int32.lt_iff_toInt_lt, Int32.le_iff_toInt_le, ← Int32.toInt_inj, Int64.lt_iff_toInt_lt, Int64.le_iff_toInt_le, ← Int64.toInt_inj, Int32.toInt_toInt64, Int32.reduceToInt, Int64.reduceToInt] at t_23_27
        refine lv_iconst (v := 0) hx hb dX8_feed_29 (by decide) ?_
        refine lv_istore (lv' := [(4, .int 0), (0, .ref m0), (1, .long v), (3, .int 3)]) hx hb dX8_feed_30 hl (by decide) rfl (fun ls hl => ?_)
        refine lv_iload hx hb dX8_feed_32 (lv_at hl 0 rfl) ?_
        refine lv_iload_n hx hb dX8_feed_34 rfl (lv_at hl 3 rfl) ?_
        refine lv_icmp_ge (tgt := 72) hx hb dX8_feed_35 (by decide) (fun c_35_28 => ?_) (fun c_35_28 => ?_)
        · exact absurd c_35_28 (by decide)
        · have t_35_28 := c_35_28
          try simp only [kb_eq0, kb_ne0, lg_cmp_lt, lg_cmp_le, lg_cmp_gt, lg_cmp_ge, lg_cmp_eq] at t_35_28
          try simp only [Int32.lt_iff_toInt_lt, Int32.le_iff_toInt_le, ← Int32.toInt_inj, Int64.lt_iff_toInt_lt, Int64.le_iff_toInt_le, ← Int64.toInt_inj, Int32.toInt_toInt64, Int32.reduceToInt, Int64.reduceToInt] at t_35_28
          refine lv_aload_n hx hb dX8_feed_38 rfl (lv_at hl 1 rfl) ?_
          refine va_get (D := D) (ci := 8) (v := .ref mX) (C := RX8) (T := TX8) (N := 31) hx hb hts iX8_feed_X8 hown hK hP 0 rfl rfl 22 (by decide) (hts (.fieldLink RX8 26 "TapeCalculatorModel" "text" "[B") (List.mem_of_getElem? (i := 3) rfl)) (fun _ h9 => h9) rfl dX8_feed_39 ?_
          refine lv_aload_n hx hb dX8_feed_42 rfl (lv_at hl 1 rfl) ?_
          refine va_get (D := D) (ci := 8) (v := .int 0) (C := RX8) (T := TX8) (N := 31) hx hb hts iX8_feed_X8 hown hK hP 0 rfl rfl 23 (by decide) (hts (.fieldLink RX8 243 "TapeCalculatorModel" "textSize" "I") (List.mem_of_getElem? (i := 2) rfl)) (fun _ h9 => h9) rfl dX8_feed_43 ?_
          refine lv_lload_n hx hb dX8_feed_46 rfl (lv_at hl 2 rfl) ?_
          refine lv_bipush (v := 8) hx hb dX8_feed_47 (by decide) ?_
          refine lv_iload hx hb dX8_feed_49 (lv_at hl 0 rfl) ?_
          refine lv_imul hx hb dX8_feed_51 ?_
          refine lv_topi (fun x_30 ex_30 => ?_)
          obtain rfl : x_30 = 0 := ex_30.trans (by decide)
          refine lv_lshr hx hb dX8_feed_52 rfl ?_
          refine lv_l2i hx hb dX8_feed_53 rfl ?_
          refine lv_i2b hx hb dX8_feed_54 rfl ?_
          refine va_bast hx hb hK hP hD hS 1 2 rfl rfl (vp_in_iff.mpr (by decide)) dX8_feed_55 (fun H locs hP hD hS => ?_)
          have hP : va_P D vwCl [(m0, .inr (8, [.ref mH, .int 0, .long 0, .int 0, .long 0, .int 0, .int 0, .int 0, .int 0, .int 0, .int 0, .long 0, .int 0, .int 0, .ref mI, .ref mJ, .ref mS, .ref mD, .int 0, .int 0, .int 0, .long 0, .ref mX, .int 0, .int 0, .int 0, .ref mA, .ref mB, .ref mW, .ref mL, .int 0])), (mX, .inl (cB, 2000, .inl (upd (fun _ => 0) (0 : Int32).toNatClampNeg (vp_nar .byte (v >>> ((0 : Int32).toInt64 &&& 63)).toInt32.toInt8.toInt32))))] H := hP
          have hD : va_D A [(m0, .inr (8, [.ref mH, .int 0, .long 0, .int 0, .long 0, .int 0, .int 0, .int 0, .int 0, .int 0, .int 0, .long 0, .int 0, .int 0, .ref mI, .ref mJ, .ref mS, .ref mD, .int 0, .int 0, .int 0, .long 0, .ref mX, .int 0, .int 0, .int 0, .ref mA, .ref mB, .ref mW, .ref mL, .int 0])), (mX, .inl (cB, 2000, .inl (upd (fun _ => 0) (0 : Int32).toNatClampNeg (vp_nar .byte (v >>> ((0 : Int32).toInt64 &&& 63)).toInt32.toInt8.toInt32))))] := hD
          refine lv_aload_n hx hb dX8_feed_56 rfl (lv_at hl 1 rfl) ?_
          refine lv_dup hx hb dX8_feed_57 rfl ?_
          refine va_get (D := D) (ci := 8) (v := .int 0) (C := RX8) (T := TX8) (N := 31) hx hb hts iX8_feed_X8 hown hK hP 0 rfl rfl 23 (by decide) (hts (.fieldLink RX8 243 "TapeCalculatorModel" "textSize" "I") (List.mem_of_getElem? (i := 2) rfl)) (fun _ h9 => h9) rfl dX8_feed_58 ?_
          refine lv_iconst (v := 1) hx hb dX8_feed_61 (by decide) ?_
          refine lv_iadd hx hb dX8_feed_62 ?_
          refine lv_topi (fun x_31 ex_31 => ?_)
          obtain rfl : x_31 = 1 := ex_31.trans (by decide)
          refine va_put (D := D) (ci := 8) (v := .int 1) (ty := .int) (C := RX8) (T := TX8) (N := 31) hx hb hts iX8_feed_X8 tyX8 tyX8_ok nmX8 hown hK hP hD hS 0 rfl rfl 23 (by decide) (hts (.fieldLink RX8 243 "TapeCalculatorModel" "textSize" "I") (List.mem_of_getElem? (i := 2) rfl)) (fun _ h9 => h9) rfl (by decide +kernel) rfl rfl (Nat.le_of_ble_eq_true rfl) dX8_feed_63 (fun H locs hP hD hS => ?_)
          have hP : va_P D vwCl [(m0, .inr (8, [.ref mH, .int 0, .long 0, .int 0, .long 0, .int 0, .int 0, .int 0, .int 0, .int 0, .int 0, .long 0, .int 0, .int 0, .ref mI, .ref mJ, .ref mS, .ref mD, .int 0, .int 0, .int 0, .long 0, .ref mX, .int 1, .int 0, .int 0, .ref mA, .ref mB, .ref mW, .ref mL, .int 0])), (mX, .inl (cB, 2000, .inl (upd (fun _ => 0) (0 : Int32).toNatClampNeg (vp_nar .byte (v >>> ((0 : Int32).toInt64 &&& 63)).toInt32.toInt8.toInt32))))] H := hP
          have hD : va_D A [(m0, .inr (8, [.ref mH, .int 0, .long 0, .int 0, .long 0, .int 0, .int 0, .int 0, .int 0, .int 0, .int 0, .long 0, .int 0, .int 0, .ref mI, .ref mJ, .ref mS, .ref mD, .int 0, .int 0, .int 0, .long 0, .ref mX, .int 1, .int 0, .int 0, .ref mA, .ref mB, .ref mW, .ref mL, .int 0])), (mX, .inl (cB, 2000, .inl (upd (fun _ => 0) (0 : Int32).toNatClampNeg (vp_nar .byte (v >>> ((0 : Int32).toInt64 &&& 63)).toInt32.toInt8.toInt32))))] := hD
          refine lv_iinc (v := 1) (lv' := [(4, .int 1), (0, .ref m0), (1, .long v), (3, .int 3)]) hx hb dX8_feed_66 hl (k := 0) rfl (by decide) (by decide) rfl (fun ls hl => ?_)
          refine lv_goto (tgt := 32) hx hb dX8_feed_69 (by decide) ?_
          refine lv_iload hx hb dX8_feed_32 (lv_at hl 0 rfl) ?_
          refine lv_iload_n hx hb dX8_feed_34 rfl (lv_at hl 3 rfl) ?_
          refine lv_icmp_ge (tgt := 72) hx hb dX8_feed_35 (by decide) (fun c_35_31 => ?_) (fun c_35_31 => ?_)
          · exact absurd c_35_31 (by decide)
          · have t_35_31 := c_35_31
            try simp only [kb_eq0, kb_ne0, lg_cmp_lt, lg_cmp_le, lg_cmp_gt, lg_cmp_ge, lg_cmp_eq] at t_35_31
            try simp only [Int32.lt_iff_toInt_lt, Int32.le_iff_toInt_le, ← Int32.toInt_inj, Int64.lt_iff_toInt_lt, Int64.le_iff_toInt_le, ← Int64.toInt_inj, Int32.toInt_toInt64, Int32.reduceToInt, Int64.reduceToInt] at t_35_31
            refine lv_aload_n hx hb dX8_feed_38 rfl (lv_at hl 1 rfl) ?_
            refine va_get (D := D) (ci := 8) (v := .ref mX) (C := RX8) (T := TX8) (N := 31) hx hb hts iX8_feed_X8 hown hK hP 0 rfl rfl 22 (by decide) (hts (.fieldLink RX8 26 "TapeCalculatorModel" "text" "[B") (List.mem_of_getElem? (i := 3) rfl)) (fun _ h9 => h9) rfl dX8_feed_39 ?_
            refine lv_aload_n hx hb dX8_feed_42 rfl (lv_at hl 1 rfl) ?_
            refine va_get (D := D) (ci := 8) (v := .int 1) (C := RX8) (T := TX8) (N := 31) hx hb hts iX8_feed_X8 hown hK hP 0 rfl rfl 23 (by decide) (hts (.fieldLink RX8 243 "TapeCalculatorModel" "textSize" "I") (List.mem_of_getElem? (i := 2) rfl)) (fun _ h9 => h9) rfl dX8_feed_43 ?_
            refine lv_lload_n hx hb dX8_feed_46 rfl (lv_at hl 2 rfl) ?_
            refine lv_bipush (v := 8) hx hb dX8_feed_47 (by decide) ?_
            refine lv_iload hx hb dX8_feed_49 (lv_at hl 0 rfl) ?_
            refine lv_imul hx hb dX8_feed_51 ?_
            refine lv_topi (fun x_33 ex_33 => ?_)
            obtain rfl : x_33 = 8 := ex_33.trans (by decide)
            refine lv_lshr hx hb dX8_feed_52 rfl ?_
            refine lv_l2i hx hb dX8_feed_53 rfl ?_
            refine lv_i2b hx hb dX8_feed_54 rfl ?_
            refine va_bast hx hb hK hP hD hS 1 2 rfl rfl (vp_in_iff.mpr (by decide)) dX8_feed_55 (fun H locs hP hD hS => ?_)
            have hP : va_P D vwCl [(m0, .inr (8, [.ref mH, .int 0, .long 0, .int 0, .long 0, .int 0, .int 0, .int 0, .int 0, .int 0, .int 0, .long 0, .int 0, .int 0, .ref mI, .ref mJ, .ref mS, .ref mD, .int 0, .int 0, .int 0, .long 0, .ref mX, .int 1, .int 0, .int 0, .ref mA, .ref mB, .ref mW, .ref mL, .int 0])), (mX, .inl (cB, 2000, .inl (upd (upd (fun _ => 0) (0 : Int32).toNatClampNeg (vp_nar .byte (v >>> ((0 : Int32).toInt64 &&& 63)).toInt32.toInt8.toInt32)) (1 : Int32).toNatClampNeg (vp_nar .byte (v >>> ((8 : Int32).toInt64 &&& 63)).toInt32.toInt8.toInt32))))] H := hP
            have hD : va_D A [(m0, .inr (8, [.ref mH, .int 0, .long 0, .int 0, .long 0, .int 0, .int 0, .int 0, .int 0, .int 0, .int 0, .long 0, .int 0, .int 0, .ref mI, .ref mJ, .ref mS, .ref mD, .int 0, .int 0, .int 0, .long 0, .ref mX, .int 1, .int 0, .int 0, .ref mA, .ref mB, .ref mW, .ref mL, .int 0])), (mX, .inl (cB, 2000, .inl (upd (upd (fun _ => 0) (0 : Int32).toNatClampNeg (vp_nar .byte (v >>> ((0 : Int32).toInt64 &&& 63)).toInt32.toInt8.toInt32)) (1 : Int32).toNatClampNeg (vp_nar .byte (v >>> ((8 : Int32).toInt64 &&& 63)).toInt32.toInt8.toInt32))))] := hD
            refine lv_aload_n hx hb dX8_feed_56 rfl (lv_at hl 1 rfl) ?_
            refine lv_dup hx hb dX8_feed_57 rfl ?_
            refine va_get (D := D) (ci := 8) (v := .int 1) (C := RX8) (T := TX8) (N := 31) hx hb hts iX8_feed_X8 hown hK hP 0 rfl rfl 23 (by decide) (hts (.fieldLink RX8 243 "TapeCalculatorModel" "textSize" "I") (List.mem_of_getElem? (i := 2) rfl)) (fun _ h9 => h9) rfl dX8_feed_58 ?_
            refine lv_iconst (v := 1) hx hb dX8_feed_61 (by decide) ?_
            refine lv_iadd hx hb dX8_feed_62 ?_
            refine lv_topi (fun x_34 ex_34 => ?_)
            obtain rfl : x_34 = 2 := ex_34.trans (by decide)
            refine va_put (D := D) (ci := 8) (v := .int 2) (ty := .int) (C := RX8) (T := TX8) (N := 31) hx hb hts iX8_feed_X8 tyX8 tyX8_ok nmX8 hown hK hP hD hS 0 rfl rfl 23 (by decide) (hts (.fieldLink RX8 243 "TapeCalculatorModel" "textSize" "I") (List.mem_of_getElem? (i := 2) rfl)) (fun _ h9 => h9) rfl (by decide +kernel) rfl rfl (Nat.le_of_ble_eq_true rfl) dX8_feed_63 (fun H locs hP hD hS => ?_)
            have hP : va_P D vwCl [(m0, .inr (8, [.ref mH, .int 0, .long 0, .int 0, .long 0, .int 0, .int 0, .int 0, .int 0, .int 0, .int 0, .long 0, .int 0, .int 0, .ref mI, .ref mJ, .ref mS, .ref mD, .int 0, .int 0, .int 0, .long 0, .ref mX, .int 2, .int 0, .int 0, .ref mA, .ref mB, .ref mW, .ref mL, .int 0])), (mX, .inl (cB, 2000, .inl (upd (upd (fun _ => 0) (0 : Int32).toNatClampNeg (vp_nar .byte (v >>> ((0 : Int32).toInt64 &&& 63)).toInt32.toInt8.toInt32)) (1 : Int32).toNatClampNeg (vp_nar .byte (v >>> ((8 : Int32).toInt64 &&& 63)).toInt32.toInt8.toInt32))))] H := hP
            have hD : va_D A [(m0, .inr (8, [.ref mH, .int 0, .long 0, .int 0, .long 0, .int 0, .int 0, .int 0, .int 0, .int 0, .int 0, .long 0, .int 0, .int 0, .ref mI, .ref mJ, .ref mS, .ref mD, .int 0, .int 0, .int 0, .long 0, .ref mX, .int 2, .int 0, .int 0, .ref mA, .ref mB, .ref mW, .ref mL, .int 0])), (mX, .inl (cB, 2000, .inl (upd (upd (fun _ => 0) (0 : Int32).toNatClampNeg (vp_nar .byte (v >>> ((0 : Int32).toInt64 &&& 63)).toInt32.toInt8.toInt32)) (1 : Int32).toNatClampNeg (vp_nar .byte (v >>> ((8 : Int32).toInt64 &&& 63)).toInt32.toInt8.toInt32))))] := hD
            refine lv_iinc (v := 2) (lv' := [(4, .int 2), (0, .ref m0), (1, .long v), (3, .int 3)]) hx hb dX8_feed_66 hl (k := 0) rfl (by decide) (by decide) rfl (fun ls hl => ?_)
            refine lv_goto (tgt := 32) hx hb dX8_feed_69 (by decide) ?_
            refine lv_iload hx hb dX8_feed_32 (lv_at hl 0 rfl) ?_
            refine lv_iload_n hx hb dX8_feed_34 rfl (lv_at hl 3 rfl) ?_
            refine lv_icmp_ge (tgt := 72) hx hb dX8_feed_35 (by decide) (fun c_35_34 => ?_) (fun c_35_34 => ?_)
            · exact absurd c_35_34 (by decide)
            · have t_35_34 := c_35_34
              try simp only [kb_eq0, kb_ne0, lg_cmp_lt, lg_cmp_le, lg_cmp_gt, lg_cmp_ge, lg_cmp_eq] at t_35_34
              try simp only [Int32.lt_iff_toInt_lt, Int32.le_iff_toInt_le, ← Int32.toInt_inj, Int64.lt_iff_toInt_lt, Int64.le_iff_toInt_le, ← Int64.toInt_inj, Int32.toInt_toInt64, Int32.reduceToInt, Int64.reduceToInt] at t_35_34
              refine lv_aload_n hx hb dX8_feed_38 rfl (lv_at hl 1 rfl) ?_
              refine va_get (D := D) (ci := 8) (v := .ref mX) (C := RX8) (T := TX8) (N := 31) hx hb hts iX8_feed_X8 hown hK hP 0 rfl rfl 22 (by decide) (hts (.fieldLink RX8 26 "TapeCalculatorModel" "text" "[B") (List.mem_of_getElem? (i := 3) rfl)) (fun _ h9 => h9) rfl dX8_feed_39 ?_
              refine lv_aload_n hx hb dX8_feed_42 rfl (lv_at hl 1 rfl) ?_
              refine va_get (D := D) (ci := 8) (v := .int 2) (C := RX8) (T := TX8) (N := 31) hx hb hts iX8_feed_X8 hown hK hP 0 rfl rfl 23 (by decide) (hts (.fieldLink RX8 243 "TapeCalculatorModel" "textSize" "I") (List.mem_of_getElem? (i := 2) rfl)) (fun _ h9 => h9) rfl dX8_feed_43 ?_
              refine lv_lload_n hx hb dX8_feed_46 rfl (lv_at hl 2 rfl) ?_
              refine lv_bipush (v := 8) hx hb dX8_feed_47 (by decide) ?_
              refine lv_iload hx hb dX8_feed_49 (lv_at hl 0 rfl) ?_
              refine lv_imul hx hb dX8_feed_51 ?_
              refine lv_topi (fun x_36 ex_36 => ?_)
              obtain rfl : x_36 = 16 := ex_36.trans (by decide)
              refine lv_lshr hx hb dX8_feed_52 rfl ?_
              refine lv_l2i hx hb dX8_feed_53 rfl ?_
              refine lv_i2b hx hb dX8_feed_54 rfl ?_
              refine va_bast hx hb hK hP hD hS 1 2 rfl rfl (vp_in_iff.mpr (by decide)) dX8_feed_55 (fun H locs hP hD hS => ?_)
              have hP : va_P D vwCl [(m0, .inr (8, [.ref mH, .int 0, .long 0, .int 0, .long 0, .int 0, .int 0, .int 0, .int 0, .int 0, .int 0, .long 0, .int 0, .int 0, .ref mI, .ref mJ, .ref mS, .ref mD, .int 0, .int 0, .int 0, .long 0, .ref mX, .int 2, .int 0, .int 0, .ref mA, .ref mB, .ref mW, .ref mL, .int 0])), (mX, .inl (cB, 2000, .inl (upd (upd (upd (fun _ => 0) (0 : Int32).toNatClampNeg (vp_nar .byte (v >>> ((0 : Int32).toInt64 &&& 63)).toInt32.toInt8.toInt32)) (1 : Int32).toNatClampNeg (vp_nar .byte (v >>> ((8 : Int32).toInt64 &&& 63)).toInt32.toInt8.toInt32)) (2 : Int32).toNatClampNeg (vp_nar .byte (v >>> ((16 : Int32).toInt64 &&& 63)).toInt32.toInt8.toInt32))))] H := hP
              have hD : va_D A [(m0, .inr (8, [.ref mH, .int 0, .long 0, .int 0, .long 0, .int 0, .int 0, .int 0, .int 0, .int 0, .int 0, .long 0, .int 0, .int 0, .ref mI, .ref mJ, .ref mS, .ref mD, .int 0, .int 0, .int 0, .long 0, .ref mX, .int 2, .int 0, .int 0, .ref mA, .ref mB, .ref mW, .ref mL, .int 0])), (mX, .inl (cB, 2000, .inl (upd (upd (upd (fun _ => 0) (0 : Int32).toNatClampNeg (vp_nar .byte (v >>> ((0 : Int32).toInt64 &&& 63)).toInt32.toInt8.toInt32)) (1 : Int32).toNatClampNeg (vp_nar .byte (v >>> ((8 : Int32).toInt64 &&& 63)).toInt32.toInt8.toInt32)) (2 : Int32).toNatClampNeg (vp_nar .byte (v >>> ((16 : Int32).toInt64 &&& 63)).toInt32.toInt8.toInt32))))] := hD
              refine lv_aload_n hx hb dX8_feed_56 rfl (lv_at hl 1 rfl) ?_
              refine lv_dup hx hb dX8_feed_57 rfl ?_
              refine va_get (D := D) (ci := 8) (v := .int 2) (C := RX8) (T := TX8) (N := 31) hx hb hts iX8_feed_X8 hown hK hP 0 rfl rfl 23 (by decide) (hts (.fieldLink RX8 243 "TapeCalculatorModel" "textSize" "I") (List.mem_of_getElem? (i := 2) rfl)) (fun _ h9 => h9) rfl dX8_feed_58 ?_
              refine lv_iconst (v := 1) hx hb dX8_feed_61 (by decide) ?_
              refine lv_iadd hx hb dX8_feed_62 ?_
              refine lv_topi (fun x_37 ex_37 => ?_)
              obtain rfl : x_37 = 3 := ex_37.trans (by decide)
              refine va_put (D := D) (ci := 8) (v := .int 3) (ty := .int) (C := RX8) (T := TX8) (N := 31) hx hb hts iX8_feed_X8 tyX8 tyX8_ok nmX8 hown hK hP hD hS 0 rfl rfl 23 (by decide) (hts (.fieldLink RX8 243 "TapeCalculatorModel" "textSize" "I") (List.mem_of_getElem? (i := 2) rfl)) (fun _ h9 => h9) rfl (by decide +kernel) rfl rfl (Nat.le_of_ble_eq_true rfl) dX8_feed_63 (fun H locs hP hD hS => ?_)
              have hP : va_P D vwCl [(m0, .inr (8, [.ref mH, .int 0, .long 0, .int 0, .long 0, .int 0, .int 0, .int 0, .int 0, .int 0, .int 0, .long 0, .int 0, .int 0, .ref mI, .ref mJ, .ref mS, .ref mD, .int 0, .int 0, .int 0, .long 0, .ref mX, .int 3, .int 0, .int 0, .ref mA, .ref mB, .ref mW, .ref mL, .int 0])), (mX, .inl (cB, 2000, .inl (upd (upd (upd (fun _ => 0) (0 : Int32).toNatClampNeg (vp_nar .byte (v >>> ((0 : Int32).toInt64 &&& 63)).toInt32.toInt8.toInt32)) (1 : Int32).toNatClampNeg (vp_nar .byte (v >>> ((8 : Int32).toInt64 &&& 63)).toInt32.toInt8.toInt32)) (2 : Int32).toNatClampNeg (vp_nar .byte (v >>> ((16 : Int32).toInt64 &&& 63)).toInt32.toInt8.toInt32))))] H := hP
              have hD : va_D A [(m0, .inr (8, [.ref mH, .int 0, .long 0, .int 0, .long 0, .int 0, .int 0, .int 0, .int 0, .int 0, .int 0, .long 0, .int 0, .int 0, .ref mI, .ref mJ, .ref mS, .ref mD, .int 0, .int 0, .int 0, .long 0, .ref mX, .int 3, .int 0, .int 0, .ref mA, .ref mB, .ref mW, .ref mL, .int 0])), (mX, .inl (cB, 2000, .inl (upd (upd (upd (fun _ => 0) (0 : Int32).toNatClampNeg (vp_nar .byte (v >>> ((0 : Int32).toInt64 &&& 63)).toInt32.toInt8.toInt32)) (1 : Int32).toNatClampNeg (vp_nar .byte (v >>> ((8 : Int32).toInt64 &&& 63)).toInt32.toInt8.toInt32)) (2 : Int32).toNatClampNeg (vp_nar .byte (v >>> ((16 : Int32).toInt64 &&& 63)).toInt32.toInt8.toInt32))))] := hD
              refine lv_iinc (v := 3) (lv' := [(4, .int 3), (0, .ref m0), (1, .long v), (3, .int 3)]) hx hb dX8_feed_66 hl (k := 0) rfl (by decide) (by decide) rfl (fun ls hl => ?_)
              refine lv_goto (tgt := 32) hx hb dX8_feed_69 (by decide) ?_
              refine lv_iload hx hb dX8_feed_32 (lv_at hl 0 rfl) ?_
              refine lv_iload_n hx hb dX8_feed_34 rfl (lv_at hl 3 rfl) ?_
              refine lv_icmp_ge (tgt := 72) hx hb dX8_feed_35 (by decide) (fun c_35_37 => ?_) (fun c_35_37 => ?_)
              · have t_35_37 := c_35_37
                try simp only [kb_eq0, kb_ne0, lg_cmp_lt, lg_cmp_le, lg_cmp_gt, lg_cmp_ge, lg_cmp_eq] at t_35_37
                try simp only [Int32.lt_iff_toInt_lt, Int32.le_iff_toInt_le, ← Int32.toInt_inj, Int64.lt_iff_toInt_lt, Int64.le_iff_toInt_le, ← Int64.toInt_inj, Int32.toInt_toInt64, Int32.reduceToInt, Int64.reduceToInt] at t_35_37
                refine lv_aload_n hx hb dX8_feed_72 rfl (lv_at hl 1 rfl) ?_
                refine va_get (D := D) (ci := 8) (v := .int 3) (C := RX8) (T := TX8) (N := 31) hx hb hts iX8_feed_X8 hown hK hP 0 rfl rfl 23 (by decide) (hts (.fieldLink RX8 243 "TapeCalculatorModel" "textSize" "I") (List.mem_of_getElem? (i := 2) rfl)) (fun _ h9 => h9) rfl dX8_feed_73 ?_
                refine kIret (u := (3, (upd (upd (upd (fun _ => 0) (0 : Int32).toNatClampNeg (vp_nar .byte (v >>> ((0 : Int32).toInt64 &&& 63)).toInt32.toInt8.toInt32)) (1 : Int32).toNatClampNeg (vp_nar .byte (v >>> ((8 : Int32).toInt64 &&& 63)).toInt32.toInt8.toInt32)) (2 : Int32).toNatClampNeg (vp_nar .byte (v >>> ((16 : Int32).toInt64 &&& 63)).toInt32.toInt8.toInt32)))) hx hb hr rfl hlocks hS dX8_feed_76 ?_ (hP.sub [0, 1] rfl) (hD.sub [0, 1] (by decide) rfl)
                first
                  | exact (kif_t (by decide)).symm
                  | exact (kif_t (by omega)).symm
                  | exact (kif_f (by omega)).symm
              · exact absurd (by decide) c_35_37
      · exact absurd (by decide) c_23_27
    · have t_9_25 := c_9_25
      try simp only [kb_eq0, kb_ne0, lg_cmp_lt, lg_cmp_le, lg_cmp_gt, lg_cmp_ge, lg_cmp_eq] at t_9_25
      try simp only [Int32.lt_iff_toInt_lt, Int32.le_iff_toInt_le, ← Int32.toInt_inj, Int64.lt_iff_toInt_lt, Int64.le_iff_toInt_le, ← Int64.toInt_inj, Int32.toInt_toInt64, Int32.reduceToInt, Int64.reduceToInt] at t_9_25
      omega
  · refine lv_iload_n hx hb dX8_feed_0 rfl (lv_at hl 2 rfl) ?_
    refine lv_i2l hx hb dX8_feed_1 rfl ?_
    refine lv_topl (fun x_39 ex_39 => ?_)
    obtain rfl : x_39 = 4 := ex_39.trans (by decide)
    refine lv_lconst (v := 1) hx hb dX8_feed_2 (by decide) ?_
    refine lv_ldc2 (v := 8) hx hb hown (hts (.constantLong RX8 241 (8)) (List.mem_of_getElem? (i := 1) rfl)) dX8_feed_3 ?_
    refine kCallI (wr := [(m0, .inr (8, [.ref mH, .int 0, .long 0, .int 0, .long 0, .int 0, .int 0, .int 0, .int 0, .int 0, .int 0, .long 0, .int 0, .int 0, .ref mI, .ref mJ, .ref mS, .ref mD, .int 0, .int 0, .int 0, .long 0, .ref mX, .int 0, .int 0, .int 0, .ref mA, .ref mB, .ref mW, .ref mL, .int 0])), (mX, .inl (cB, 2000, .inl (fun _ => 0)))]) (va_runS (As := [.long 4, .long 1, .long 8]) (rest := []) ⟨hx, hb, hml, hown, hts⟩ (r_in l D cI cL cB cZ cT _ 4 1 8) (va_cwS 3 hts gX8_feed_X8_in rfl rfl rfl (by decide +kernel) ⟨Nat.le_of_ble_eq_true rfl, Nat.le_of_ble_eq_true rfl⟩) (kPreS hG hP hD [] rfl (by decide)) rfl rfl hl.1 rfl (lv_room (Nat.le_of_ble_eq_true rfl)) dX8_feed_6 ⟨Nat.le_of_ble_eq_true rfl, Nat.le_of_ble_eq_true rfl⟩) hA hP hD hS [] [0, 1] rfl rfl (by decide) (by decide) (fun r_40 u_r_40 H locs wr_40 hP hD hS => ?_)
    have hP : va_P D vwCl [(m0, .inr (8, [.ref mH, .int 0, .long 0, .int 0, .long 0, .int 0, .int 0, .int 0, .int 0, .int 0, .int 0, .long 0, .int 0, .int 0, .ref mI, .ref mJ, .ref mS, .ref mD, .int 0, .int 0, .int 0, .long 0, .ref mX, .int 0, .int 0, .int 0, .ref mA, .ref mB, .ref mW, .ref mL, .int 0])), (mX, .inl (cB, 2000, .inl (fun _ => 0)))] H := hP
    have hD : va_D A [(m0, .inr (8, [.ref mH, .int 0, .long 0, .int 0, .long 0, .int 0, .int 0, .int 0, .int 0, .int 0, .int 0, .long 0, .int 0, .int 0, .ref mI, .ref mJ, .ref mS, .ref mD, .int 0, .int 0, .int 0, .long 0, .ref mX, .int 0, .int 0, .int 0, .ref mA, .ref mB, .ref mW, .ref mL, .int 0])), (mX, .inl (cB, 2000, .inl (fun _ => 0)))] := hD
    try dsimp only at wr_40
    subst wr_40
    refine lv_if_ne (tgt := 14) hx hb dX8_feed_9 (by decide) (fun c_9_40 => ?_) (fun c_9_40 => ?_)
    · have t_9_40 := c_9_40
      try simp only [kb_eq0, kb_ne0, lg_cmp_lt, lg_cmp_le, lg_cmp_gt, lg_cmp_ge, lg_cmp_eq] at t_9_40
      try simp only [Int32.lt_iff_toInt_lt, Int32.le_iff_toInt_le, ← Int32.toInt_inj, Int64.lt_iff_toInt_lt, Int64.le_iff_toInt_le, ← Int64.toInt_inj, Int32.toInt_toInt64, Int32.reduceToInt, Int64.reduceToInt] at t_9_40
      refine lv_aload_n hx hb dX8_feed_14 rfl (lv_at hl 0 rfl) ?_
      refine va_get (D := D) (ci := 8) (v := .int 0) (C := RX8) (T := TX8) (N := 31) hx hb hts iX8_feed_X8 hown hK hP 0 rfl rfl 23 (by decide) (hts (.fieldLink RX8 243 "TapeCalculatorModel" "textSize" "I") (List.mem_of_getElem? (i := 2) rfl)) (fun _ h9 => h9) rfl dX8_feed_15 ?_
      refine lv_iload_n hx hb dX8_feed_18 rfl (lv_at hl 2 rfl) ?_
      refine lv_iadd hx hb dX8_feed_19 ?_
      refine lv_topi (fun x_42 ex_42 => ?_)
      obtain rfl : x_42 = 4 := ex_42.trans (by decide)
      refine lv_sipush (v := 2000) hx hb dX8_feed_20 (by decide) ?_
      refine lv_icmp_le (tgt := 29) hx hb dX8_feed_23 (by decide) (fun c_23_42 => ?_) (fun c_23_42 => ?_)
      · have t_23_42 := c_23_42
        try simp only [kb_eq0, kb_ne0, lg_cmp_lt, lg_cmp_le, lg_cmp_gt, lg_cmp_ge, lg_cmp_eq] at t_23_42
        try simp only [Int32.lt_iff_toInt_lt, Int32.le_iff_toInt_le, ← Int32.toInt_inj, Int64.lt_iff_toInt_lt, Int64.le_iff_toInt_le, ← Int64.toInt_inj, Int32.toInt_toInt64, Int32.reduceToInt, Int64.reduceToInt] at t_23_42
        refine lv_iconst (v := 0) hx hb dX8_feed_29 (by decide) ?_
        refine lv_istore (lv' := [(4, .int 0), (0, .ref m0), (1, .long v), (3, .int 4)]) hx hb dX8_feed_30 hl (by decide) rfl (fun ls hl => ?_)
        refine lv_iload hx hb dX8_feed_32 (lv_at hl 0 rfl) ?_
        refine lv_iload_n hx hb dX8_feed_34 rfl (lv_at hl 3 rfl) ?_
        refine lv_icmp_ge (tgt := 72) hx hb dX8_feed_35 (by decide) (fun c_35_43 => ?_) (fun c_35_43 => ?_)
        · exact absurd c_35_43 (by decide)
        · have t_35_43 := c_35_43
          try simp only [kb_eq0, kb_ne0, lg_cmp_lt, lg_cmp_le, lg_cmp_gt, lg_cmp_ge, lg_cmp_eq] at t_35_43
          try simp only [Int32.lt_iff_toInt_lt, Int32.le_iff_toInt_le, ← Int32.toInt_inj, Int64.lt_iff_toInt_lt, Int64.le_iff_toInt_le, ← Int64.toInt_inj, Int32.toInt_toInt64, Int32.reduceToInt, Int64.reduceToInt] at t_35_43
          refine lv_aload_n hx hb dX8_feed_38 rfl (lv_at hl 1 rfl) ?_
          refine va_get (D := D) (ci := 8) (v := .ref mX) (C := RX8) (T := TX8) (N := 31) hx hb hts iX8_feed_X8 hown hK hP 0 rfl rfl 22 (by decide) (hts (.fieldLink RX8 26 "TapeCalculatorModel" "text" "[B") (List.mem_of_getElem? (i := 3) rfl)) (fun _ h9 => h9) rfl dX8_feed_39 ?_
          refine lv_aload_n hx hb dX8_feed_42 rfl (lv_at hl 1 rfl) ?_
          refine va_get (D := D) (ci := 8) (v := .int 0) (C := RX8) (T := TX8) (N := 31) hx hb hts iX8_feed_X8 hown hK hP 0 rfl rfl 23 (by decide) (hts (.fieldLink RX8 243 "TapeCalculatorModel" "textSize" "I") (List.mem_of_getElem? (i := 2) rfl)) (fun _ h9 => h9) rfl dX8_feed_43 ?_
          refine lv_lload_n hx hb dX8_feed_46 rfl (lv_at hl 2 rfl) ?_
          refine lv_bipush (v := 8) hx hb dX8_feed_47 (by decide) ?_
          refine lv_iload hx hb dX8_feed_49 (lv_at hl 0 rfl) ?_
          refine lv_imul hx hb dX8_feed_51 ?_
          refine lv_topi (fun x_45 ex_45 => ?_)
          obtain rfl : x_45 = 0 := ex_45.trans (by decide)
          refine lv_lshr hx hb dX8_feed_52 rfl ?_
          refine lv_l2i hx hb dX8_feed_53 rfl ?_
          refine lv_i2b hx hb dX8_feed_54 rfl ?_
          refine va_bast hx hb hK hP hD hS 1 2 rfl rfl (vp_in_iff.mpr (by decide)) dX8_feed_55 (fun H locs hP hD hS => ?_)
          have hP : va_P D vwCl [(m0, .inr (8, [.ref mH, .int 0, .long 0, .int 0, .long 0, .int 0, .int 0, .int 0, .int 0, .int 0, .int 0, .long 0, .int 0, .int 0, .ref mI, .ref mJ, .ref mS, .ref mD, .int 0, .int 0, .int 0, .long 0, .ref mX, .int 0, .int 0, .int 0, .ref mA, .ref mB, .ref mW, .ref mL, .int 0])), (mX, .inl (cB, 2000, .inl (upd (fun _ => 0) (0 : Int32).toNatClampNeg (vp_nar .byte (v >>> ((0 : Int32).toInt64 &&& 63)).toInt32.toInt8.toInt32))))] H := hP
          have hD : va_D A [(m0, .inr (8, [.ref mH, .int 0, .long 0, .int 0, .long 0, .int 0, .int 0, .int 0, .int 0, .int 0, .int 0, .long 0, .int 0, .int 0, .ref mI, .ref mJ, .ref mS, .ref mD, .int 0, .int 0, .int 0, .long 0, .ref mX, .int 0, .int 0, .int 0, .ref mA, .ref mB, .ref mW, .ref mL, .int 0])), (mX, .inl (cB, 2000, .inl (upd (fun _ => 0) (0 : Int32).toNatClampNeg (vp_nar .byte (v >>> ((0 : Int32).toInt64 &&& 63)).toInt32.toInt8.toInt32))))] := hD
          refine lv_aload_n hx hb dX8_feed_56 rfl (lv_at hl 1 rfl) ?_
          refine lv_dup hx hb dX8_feed_57 rfl ?_
          refine va_get (D := D) (ci := 8) (v := .int 0) (C := RX8) (T := TX8) (N := 31) hx hb hts iX8_feed_X8 hown hK hP 0 rfl rfl 23 (by decide) (hts (.fieldLink RX8 243 "TapeCalculatorModel" "textSize" "I") (List.mem_of_getElem? (i := 2) rfl)) (fun _ h9 => h9) rfl dX8_feed_58 ?_
          refine lv_iconst (v := 1) hx hb dX8_feed_61 (by decide) ?_
          refine lv_iadd hx hb dX8_feed_62 ?_
          refine lv_topi (fun x_46 ex_46 => ?_)
          obtain rfl : x_46 = 1 := ex_46.trans (by decide)
          refine va_put (D := D) (ci := 8) (v := .int 1) (ty := .int) (C := RX8) (T := TX8) (N := 31) hx hb hts iX8_feed_X8 tyX8 tyX8_ok nmX8 hown hK hP hD hS 0 rfl rfl 23 (by decide) (hts (.fieldLink RX8 243 "TapeCalculatorModel" "textSize" "I") (List.mem_of_getElem? (i := 2) rfl)) (fun _ h9 => h9) rfl (by decide +kernel) rfl rfl (Nat.le_of_ble_eq_true rfl) dX8_feed_63 (fun H locs hP hD hS => ?_)
          have hP : va_P D vwCl [(m0, .inr (8, [.ref mH, .int 0, .long 0, .int 0, .long 0, .int 0, .int 0, .int 0, .int 0, .int 0, .int 0, .long 0, .int 0, .int 0, .ref mI, .ref mJ, .ref mS, .ref mD, .int 0, .int 0, .int 0, .long 0, .ref mX, .int 1, .int 0, .int 0, .ref mA, .ref mB, .ref mW, .ref mL, .int 0])), (mX, .inl (cB, 2000, .inl (upd (fun _ => 0) (0 : Int32).toNatClampNeg (vp_nar .byte (v >>> ((0 : Int32).toInt64 &&& 63)).toInt32.toInt8.toInt32))))] H := hP
          have hD : va_D A [(m0, .inr (8, [.ref mH, .int 0, .long 0, .int 0, .long 0, .int 0, .int 0, .int 0, .int 0, .int 0, .int 0, .long 0, .int 0, .int 0, .ref mI, .ref mJ, .ref mS, .ref mD, .int 0, .int 0, .int 0, .long 0, .ref mX, .int 1, .int 0, .int 0, .ref mA, .ref mB, .ref mW, .ref mL, .int 0])), (mX, .inl (cB, 2000, .inl (upd (fun _ => 0) (0 : Int32).toNatClampNeg (vp_nar .byte (v >>> ((0 : Int32).toInt64 &&& 63)).toInt32.toInt8.toInt32))))] := hD
          refine lv_iinc (v := 1) (lv' := [(4, .int 1), (0, .ref m0), (1, .long v), (3, .int 4)]) hx hb dX8_feed_66 hl (k := 0) rfl (by decide) (by decide) rfl (fun ls hl => ?_)
          refine lv_goto (tgt := 32) hx hb dX8_feed_69 (by decide) ?_
          refine lv_iload hx hb dX8_feed_32 (lv_at hl 0 rfl) ?_
          refine lv_iload_n hx hb dX8_feed_34 rfl (lv_at hl 3 rfl) ?_
          refine lv_icmp_ge (tgt := 72) hx hb dX8_feed_35 (by decide) (fun c_35_46 => ?_) (fun c_35_46 => ?_)
          · exact absurd c_35_46 (by decide)
          · have t_35_46 := c_35_46
            try simp only [kb_eq0, kb_ne0, lg_cmp_lt, lg_cmp_le, lg_cmp_gt, lg_cmp_ge, lg_cmp_eq] at t_35_46
            try simp only [Int32.lt_iff_toInt_lt, Int32.le_iff_toInt_le, ← Int32.toInt_inj, Int64.lt_iff_toInt_lt, Int64.le_iff_toInt_le, ← Int64.toInt_inj, Int32.toInt_toInt64, Int32.reduceToInt, Int64.reduceToInt] at t_35_46
            refine lv_aload_n hx hb dX8_feed_38 rfl (lv_at hl 1 rfl) ?_
            refine va_get (D := D) (ci := 8) (v := .ref mX) (C := RX8) (T := TX8) (N := 31) hx hb hts iX8_feed_X8 hown hK hP 0 rfl rfl 22 (by decide) (hts (.fieldLink RX8 26 "TapeCalculatorModel" "text" "[B") (List.mem_of_getElem? (i := 3) rfl)) (fun _ h9 => h9) rfl dX8_feed_39 ?_
            refine lv_aload_n hx hb dX8_feed_42 rfl (lv_at hl 1 rfl) ?_
            refine va_get (D := D) (ci := 8) (v := .int 1) (C := RX8) (T := TX8) (N := 31) hx hb hts iX8_feed_X8 hown hK hP 0 rfl rfl 23 (by decide) (hts (.fieldLink RX8 243 "TapeCalculatorModel" "textSize" "I") (List.mem_of_getElem? (i := 2) rfl)) (fun _ h9 => h9) rfl dX8_feed_43 ?_
            refine lv_lload_n hx hb dX8_feed_46 rfl (lv_at hl 2 rfl) ?_
            refine lv_bipush (v := 8) hx hb dX8_feed_47 (by decide) ?_
            refine lv_iload hx hb dX8_feed_49 (lv_at hl 0 rfl) ?_
            refine lv_imul hx hb dX8_feed_51 ?_
            refine lv_topi (fun x_48 ex_48 => ?_)
            obtain rfl : x_48 = 8 := ex_48.trans (by decide)
            refine lv_lshr hx hb dX8_feed_52 rfl ?_
            refine lv_l2i hx hb dX8_feed_53 rfl ?_
            refine lv_i2b hx hb dX8_feed_54 rfl ?_
            refine va_bast hx hb hK hP hD hS 1 2 rfl rfl (vp_in_iff.mpr (by decide)) dX8_feed_55 (fun H locs hP hD hS => ?_)
            have hP : va_P D vwCl [(m0, .inr (8, [.ref mH, .int 0, .long 0, .int 0, .long 0, .int 0, .int 0, .int 0, .int 0, .int 0, .int 0, .long 0, .int 0, .int 0, .ref mI, .ref mJ, .ref mS, .ref mD, .int 0, .int 0, .int 0, .long 0, .ref mX, .int 1, .int 0, .int 0, .ref mA, .ref mB, .ref mW, .ref mL, .int 0])), (mX, .inl (cB, 2000, .inl (upd (upd (fun _ => 0) (0 : Int32).toNatClampNeg (vp_nar .byte (v >>> ((0 : Int32).toInt64 &&& 63)).toInt32.toInt8.toInt32)) (1 : Int32).toNatClampNeg (vp_nar .byte (v >>> ((8 : Int32).toInt64 &&& 63)).toInt32.toInt8.toInt32))))] H := hP
            have hD : va_D A [(m0, .inr (8, [.ref mH, .int 0, .long 0, .int 0, .long 0, .int 0, .int 0, .int 0, .int 0, .int 0, .int 0, .long 0, .int 0, .int 0, .ref mI, .ref mJ, .ref mS, .ref mD, .int 0, .int 0, .int 0, .long 0, .ref mX, .int 1, .int 0, .int 0, .ref mA, .ref mB, .ref mW, .ref mL, .int 0])), (mX, .inl (cB, 2000, .inl (upd (upd (fun _ => 0) (0 : Int32).toNatClampNeg (vp_nar .byte (v >>> ((0 : Int32).toInt64 &&& 63)).toInt32.toInt8.toInt32)) (1 : Int32).toNatClampNeg (vp_nar .byte (v >>> ((8 : Int32).toInt64 &&& 63)).toInt32.toInt8.toInt32))))] := hD
            refine lv_aload_n hx hb dX8_feed_56 rfl (lv_at hl 1 rfl) ?_
            refine lv_dup hx hb dX8_feed_57 rfl ?_
            refine va_get (D := D) (ci := 8) (v := .int 1) (C := RX8) (T := TX8) (N := 31) hx hb hts iX8_feed_X8 hown hK hP 0 rfl rfl 23 (by decide) (hts (.fieldLink RX8 243 "TapeCalculatorModel" "textSize" "I") (List.mem_of_getElem? (i := 2) rfl)) (fun _ h9 => h9) rfl dX8_feed_58 ?_
            refine lv_iconst (v := 1) hx hb dX8_feed_61 (by decide) ?_
            refine lv_iadd hx hb dX8_feed_62 ?_
            refine lv_topi (fun x_49 ex_49 => ?_)
            obtain rfl : x_49 = 2 := ex_49.trans (by decide)
            refine va_put (D := D) (ci := 8) (v := .int 2) (ty := .int) (C := RX8) (T := TX8) (N := 31) hx hb hts iX8_feed_X8 tyX8 tyX8_ok nmX8 hown hK hP hD hS 0 rfl rfl 23 (by decide) (hts (.fieldLink RX8 243 "TapeCalculatorModel" "textSize" "I") (List.mem_of_getElem? (i := 2) rfl)) (fun _ h9 => h9) rfl (by decide +kernel) rfl rfl (Nat.le_of_ble_eq_true rfl) dX8_feed_63 (fun H locs hP hD hS => ?_)
            have hP : va_P D vwCl [(m0, .inr (8, [.ref mH, .int 0, .long 0, .int 0, .long 0, .int 0, .int 0, .int 0, .int 0, .int 0, .int 0, .long 0, .int 0, .int 0, .ref mI, .ref mJ, .ref mS, .ref mD, .int 0, .int 0, .int 0, .long 0, .ref mX, .int 2, .int 0, .int 0, .ref mA, .ref mB, .ref mW, .ref mL, .int 0])), (mX, .inl (cB, 2000, .inl (upd (upd (fun _ => 0) (0 : Int32).toNatClampNeg (vp_nar .byte (v >>> ((0 : Int32).toInt64 &&& 63)).toInt32.toInt8.toInt32)) (1 : Int32).toNatClampNeg (vp_nar .byte (v >>> ((8 : Int32).toInt64 &&& 63)).toInt32.toInt8.toInt32))))] H := hP
            have hD : va_D A [(m0, .inr (8, [.ref mH, .int 0, .long 0, .int 0, .long 0, .int 0, .int 0, .int 0, .int 0, .int 0, .int 0, .long 0, .int 0, .int 0, .ref mI, .ref mJ, .ref mS, .ref mD, .int 0, .int 0, .int 0, .long 0, .ref mX, .int 2, .int 0, .int 0, .ref mA, .ref mB, .ref mW, .ref mL, .int 0])), (mX, .inl (cB, 2000, .inl (upd (upd (fun _ => 0) (0 : Int32).toNatClampNeg (vp_nar .byte (v >>> ((0 : Int32).toInt64 &&& 63)).toInt32.toInt8.toInt32)) (1 : Int32).toNatClampNeg (vp_nar .byte (v >>> ((8 : Int32).toInt64 &&& 63)).toInt32.toInt8.toInt32))))] := hD
            refine lv_iinc (v := 2) (lv' := [(4, .int 2), (0, .ref m0), (1, .long v), (3, .int 4)]) hx hb dX8_feed_66 hl (k := 0) rfl (by decide) (by decide) rfl (fun ls hl => ?_)
            refine lv_goto (tgt := 32) hx hb dX8_feed_69 (by decide) ?_
            refine lv_iload hx hb dX8_feed_32 (lv_at hl 0 rfl) ?_
            refine lv_iload_n hx hb dX8_feed_34 rfl (lv_at hl 3 rfl) ?_
            refine lv_icmp_ge (tgt := 72) hx hb dX8_feed_35 (by decide) (fun c_35_49 => ?_) (fun c_35_49 => ?_)
            · exact absurd c_35_49 (by decide)
            · have t_35_49 := c_35_49
              try simp only [kb_eq0, kb_ne0, lg_cmp_lt, lg_cmp_le, lg_cmp_gt, lg_cmp_ge, lg_cmp_eq] at t_35_49
              try simp only [Int32.lt_iff_toInt_lt, Int32.le_iff_toInt_le, ← Int32.toInt_inj, Int64.lt_iff_toInt_lt, Int64.le_iff_toInt_le, ← Int64.toInt_inj, Int32.toInt_toInt64, Int32.reduceToInt, Int64.reduceToInt] at t_35_49
              refine lv_aload_n hx hb dX8_feed_38 rfl (lv_at hl 1 rfl) ?_
              refine va_get (D := D) (ci := 8) (v := .ref mX) (C := RX8) (T := TX8) (N := 31) hx hb hts iX8_feed_X8 hown hK hP 0 rfl rfl 22 (by decide) (hts (.fieldLink RX8 26 "TapeCalculatorModel" "text" "[B") (List.mem_of_getElem? (i := 3) rfl)) (fun _ h9 => h9) rfl dX8_feed_39 ?_
              refine lv_aload_n hx hb dX8_feed_42 rfl (lv_at hl 1 rfl) ?_
              refine va_get (D := D) (ci := 8) (v := .int 2) (C := RX8) (T := TX8) (N := 31) hx hb hts iX8_feed_X8 hown hK hP 0 rfl rfl 23 (by decide) (hts (.fieldLink RX8 243 "TapeCalculatorModel" "textSize" "I") (List.mem_of_getElem? (i := 2) rfl)) (fun _ h9 => h9) rfl dX8_feed_43 ?_
              refine lv_lload_n hx hb dX8_feed_46 rfl (lv_at hl 2 rfl) ?_
              refine lv_bipush (v := 8) hx hb dX8_feed_47 (by decide) ?_
              refine lv_iload hx hb dX8_feed_49 (lv_at hl 0 rfl) ?_
              refine lv_imul hx hb dX8_feed_51 ?_
              refine lv_topi (fun x_51 ex_51 => ?_)
              obtain rfl : x_51 = 16 := ex_51.trans (by decide)
              refine lv_lshr hx hb dX8_feed_52 rfl ?_
              refine lv_l2i hx hb dX8_feed_53 rfl ?_
              refine lv_i2b hx hb dX8_feed_54 rfl ?_
              refine va_bast hx hb hK hP hD hS 1 2 rfl rfl (vp_in_iff.mpr (by decide)) dX8_feed_55 (fun H locs hP hD hS => ?_)
              have hP : va_P D vwCl [(m0, .inr (8, [.ref mH, .int 0, .long 0, .int 0, .long 0, .int 0, .int 0, .int 0, .int 0, .int 0, .int 0, .long 0, .int 0, .int 0, .ref mI, .ref mJ, .ref mS, .ref mD, .int 0, .int 0, .int 0, .long 0, .ref mX, .int 2, .int 0, .int 0, .ref mA, .ref mB, .ref mW, .ref mL, .int 0])), (mX, .inl (cB, 2000, .inl (upd (upd (upd (fun _ => 0) (0 : Int32).toNatClampNeg (vp_nar .byte (v >>> ((0 : Int32).toInt64 &&& 63)).toInt32.toInt8.toInt32)) (1 : Int32).toNatClampNeg (vp_nar .byte (v >>> ((8 : Int32).toInt64 &&& 63)).toInt32.toInt8.toInt32)) (2 : Int32).toNatClampNeg (vp_nar .byte (v >>> ((16 : Int32).toInt64 &&& 63)).toInt32.toInt8.toInt32))))] H := hP
              have hD : va_D A [(m0, .inr (8, [.ref mH, .int 0, .long 0, .int 0, .long 0, .int 0, .int 0, .int 0, .int 0, .int 0, .int 0, .long 0, .int 0, .int 0, .ref mI, .ref mJ, .ref mS, .ref mD, .int 0, .int 0, .int 0, .long 0, .ref mX, .int 2, .int 0, .int 0, .ref mA, .ref mB, .ref mW, .ref mL, .int 0])), (mX, .inl (cB, 2000, .inl (upd (upd (upd (fun _ => 0) (0 : Int32).toNatClampNeg (vp_nar .byte (v >>> ((0 : Int32).toInt64 &&& 63)).toInt32.toInt8.toInt32)) (1 : Int32).toNatClampNeg (vp_nar .byte (v >>> ((8 : Int32).toInt64 &&& 63)).toInt32.toInt8.toInt32)) (2 : Int32).toNatClampNeg (vp_nar .byte (v >>> ((16 : Int32).toInt64 &&& 63)).toInt32.toInt8.toInt32))))] := hD
              refine lv_aload_n hx hb dX8_feed_56 rfl (lv_at hl 1 rfl) ?_
              refine lv_dup hx hb dX8_feed_57 rfl ?_
              refine va_get (D := D) (ci := 8) (v := .int 2) (C := RX8) (T := TX8) (N := 31) hx hb hts iX8_feed_X8 hown hK hP 0 rfl rfl 23 (by decide) (hts (.fieldLink RX8 243 "TapeCalculatorModel" "textSize" "I") (List.mem_of_getElem? (i := 2) rfl)) (fun _ h9 => h9) rfl dX8_feed_58 ?_
              refine lv_iconst (v := 1) hx hb dX8_feed_61 (by decide) ?_
              refine lv_iadd hx hb dX8_feed_62 ?_
              refine lv_topi (fun x_52 ex_52 => ?_)
              obtain rfl : x_52 = 3 := ex_52.trans (by decide)
              refine va_put (D := D) (ci := 8) (v := .int 3) (ty := .int) (C := RX8) (T := TX8) (N := 31) hx hb hts iX8_feed_X8 tyX8 tyX8_ok nmX8 hown hK hP hD hS 0 rfl rfl 23 (by decide) (hts (.fieldLink RX8 243 "TapeCalculatorModel" "textSize" "I") (List.mem_of_getElem? (i := 2) rfl)) (fun _ h9 => h9) rfl (by decide +kernel) rfl rfl (Nat.le_of_ble_eq_true rfl) dX8_feed_63 (fun H locs hP hD hS => ?_)
              have hP : va_P D vwCl [(m0, .inr (8, [.ref mH, .int 0, .long 0, .int 0, .long 0, .int 0, .int 0, .int 0, .int 0, .int 0, .int 0, .long 0, .int 0, .int 0, .ref mI, .ref mJ, .ref mS, .ref mD, .int 0, .int 0, .int 0, .long 0, .ref mX, .int 3, .int 0, .int 0, .ref mA, .ref mB, .ref mW, .ref mL, .int 0])), (mX, .inl (cB, 2000, .inl (upd (upd (upd (fun _ => 0) (0 : Int32).toNatClampNeg (vp_nar .byte (v >>> ((0 : Int32).toInt64 &&& 63)).toInt32.toInt8.toInt32)) (1 : Int32).toNatClampNeg (vp_nar .byte (v >>> ((8 : Int32).toInt64 &&& 63)).toInt32.toInt8.toInt32)) (2 : Int32).toNatClampNeg (vp_nar .byte (v >>> ((16 : Int32).toInt64 &&& 63)).toInt32.toInt8.toInt32))))] H := hP
              have hD : va_D A [(m0, .inr (8, [.ref mH, .int 0, .long 0, .int 0, .long 0, .int 0, .int 0, .int 0, .int 0, .int 0, .int 0, .long 0, .int 0, .int 0, .ref mI, .ref mJ, .ref mS, .ref mD, .int 0, .int 0, .int 0, .long 0, .ref mX, .int 3, .int 0, .int 0, .ref mA, .ref mB, .ref mW, .ref mL, .int 0])), (mX, .inl (cB, 2000, .inl (upd (upd (upd (fun _ => 0) (0 : Int32).toNatClampNeg (vp_nar .byte (v >>> ((0 : Int32).toInt64 &&& 63)).toInt32.toInt8.toInt32)) (1 : Int32).toNatClampNeg (vp_nar .byte (v >>> ((8 : Int32).toInt64 &&& 63)).toInt32.toInt8.toInt32)) (2 : Int32).toNatClampNeg (vp_nar .byte (v >>> ((16 : Int32).toInt64 &&& 63)).toInt32.toInt8.toInt32))))] := hD
              refine lv_iinc (v := 3) (lv' := [(4, .int 3), (0, .ref m0), (1, .long v), (3, .int 4)]) hx hb dX8_feed_66 hl (k := 0) rfl (by decide) (by decide) rfl (fun ls hl => ?_)
              refine lv_goto (tgt := 32) hx hb dX8_feed_69 (by decide) ?_
              refine lv_iload hx hb dX8_feed_32 (lv_at hl 0 rfl) ?_
              refine lv_iload_n hx hb dX8_feed_34 rfl (lv_at hl 3 rfl) ?_
              refine lv_icmp_ge (tgt := 72) hx hb dX8_feed_35 (by decide) (fun c_35_52 => ?_) (fun c_35_52 => ?_)
              · exact absurd c_35_52 (by decide)
              · have t_35_52 := c_35_52
                try simp only [kb_eq0, kb_ne0, lg_cmp_lt, lg_cmp_le, lg_cmp_gt, lg_cmp_ge, lg_cmp_eq] at t_35_52
                try simp only [Int32.lt_iff_toInt_lt, Int32.le_iff_toInt_le, ← Int32.toInt_inj, Int64.lt_iff_toInt_lt, Int64.le_iff_toInt_le, ← Int64.toInt_inj, Int32.toInt_toInt64, Int32.reduceToInt, Int64.reduceToInt] at t_35_52
                refine lv_aload_n hx hb dX8_feed_38 rfl (lv_at hl 1 rfl) ?_
                refine va_get (D := D) (ci := 8) (v := .ref mX) (C := RX8) (T := TX8) (N := 31) hx hb hts iX8_feed_X8 hown hK hP 0 rfl rfl 22 (by decide) (hts (.fieldLink RX8 26 "TapeCalculatorModel" "text" "[B") (List.mem_of_getElem? (i := 3) rfl)) (fun _ h9 => h9) rfl dX8_feed_39 ?_
                refine lv_aload_n hx hb dX8_feed_42 rfl (lv_at hl 1 rfl) ?_
                refine va_get (D := D) (ci := 8) (v := .int 3) (C := RX8) (T := TX8) (N := 31) hx hb hts iX8_feed_X8 hown hK hP 0 rfl rfl 23 (by decide) (hts (.fieldLink RX8 243 "TapeCalculatorModel" "textSize" "I") (List.mem_of_getElem? (i := 2) rfl)) (fun _ h9 => h9) rfl dX8_feed_43 ?_
                refine lv_lload_n hx hb dX8_feed_46 rfl (lv_at hl 2 rfl) ?_
                refine lv_bipush (v := 8) hx hb dX8_feed_47 (by decide) ?_
                refine lv_iload hx hb dX8_feed_49 (lv_at hl 0 rfl) ?_
                refine lv_imul hx hb dX8_feed_51 ?_
                refine lv_topi (fun x_54 ex_54 => ?_)
                obtain rfl : x_54 = 24 := ex_54.trans (by decide)
                refine lv_lshr hx hb dX8_feed_52 rfl ?_
                refine lv_l2i hx hb dX8_feed_53 rfl ?_
                refine lv_i2b hx hb dX8_feed_54 rfl ?_
                refine va_bast hx hb hK hP hD hS 1 2 rfl rfl (vp_in_iff.mpr (by decide)) dX8_feed_55 (fun H locs hP hD hS => ?_)
                have hP : va_P D vwCl [(m0, .inr (8, [.ref mH, .int 0, .long 0, .int 0, .long 0, .int 0, .int 0, .int 0, .int 0, .int 0, .int 0, .long 0, .int 0, .int 0, .ref mI, .ref mJ, .ref mS, .ref mD, .int 0, .int 0, .int 0, .long 0, .ref mX, .int 3, .int 0, .int 0, .ref mA, .ref mB, .ref mW, .ref mL, .int 0])), (mX, .inl (cB, 2000, .inl (upd (upd (upd (upd (fun _ => 0) (0 : Int32).toNatClampNeg (vp_nar .byte (v >>> ((0 : Int32).toInt64 &&& 63)).toInt32.toInt8.toInt32)) (1 : Int32).toNatClampNeg (vp_nar .byte (v >>> ((8 : Int32).toInt64 &&& 63)).toInt32.toInt8.toInt32)) (2 : Int32).toNatClampNeg (vp_nar .byte (v >>> ((16 : Int32).toInt64 &&& 63)).toInt32.toInt8.toInt32)) (3 : Int32).toNatClampNeg (vp_nar .byte (v >>> ((24 : Int32).toInt64 &&& 63)).toInt32.toInt8.toInt32))))] H := hP
                have hD : va_D A [(m0, .inr (8, [.ref mH, .int 0, .long 0, .int 0, .long 0, .int 0, .int 0, .int 0, .int 0, .int 0, .int 0, .long 0, .int 0, .int 0, .ref mI, .ref mJ, .ref mS, .ref mD, .int 0, .int 0, .int 0, .long 0, .ref mX, .int 3, .int 0, .int 0, .ref mA, .ref mB, .ref mW, .ref mL, .int 0])), (mX, .inl (cB, 2000, .inl (upd (upd (upd (upd (fun _ => 0) (0 : Int32).toNatClampNeg (vp_nar .byte (v >>> ((0 : Int32).toInt64 &&& 63)).toInt32.toInt8.toInt32)) (1 : Int32).toNatClampNeg (vp_nar .byte (v >>> ((8 : Int32).toInt64 &&& 63)).toInt32.toInt8.toInt32)) (2 : Int32).toNatClampNeg (vp_nar .byte (v >>> ((16 : Int32).toInt64 &&& 63)).toInt32.toInt8.toInt32)) (3 : Int32).toNatClampNeg (vp_nar .byte (v >>> ((24 : Int32).toInt64 &&& 63)).toInt32.toInt8.toInt32))))] := hD
                refine lv_aload_n hx hb dX8_feed_56 rfl (lv_at hl 1 rfl) ?_
                refine lv_dup hx hb dX8_feed_57 rfl ?_
                refine va_get (D := D) (ci := 8) (v := .int 3) (C := RX8) (T := TX8) (N := 31) hx hb hts iX8_feed_X8 hown hK hP 0 rfl rfl 23 (by decide) (hts (.fieldLink RX8 243 "TapeCalculatorModel" "textSize" "I") (List.mem_of_getElem? (i := 2) rfl)) (fun _ h9 => h9) rfl dX8_feed_58 ?_
                refine lv_iconst (v := 1) hx hb dX8_feed_61 (by decide) ?_
                refine lv_iadd hx hb dX8_feed_62 ?_
                refine lv_topi (fun x_55 ex_55 => ?_)
                obtain rfl : x_55 = 4 := ex_55.trans (by decide)
                refine va_put (D := D) (ci := 8) (v := .int 4) (ty := .int) (C := RX8) (T := TX8) (N := 31) hx hb hts iX8_feed_X8 tyX8 tyX8_ok nmX8 hown hK hP hD hS 0 rfl rfl 23 (by decide) (hts (.fieldLink RX8 243 "TapeCalculatorModel" "textSize" "I") (List.mem_of_getElem? (i := 2) rfl)) (fun _ h9 => h9) rfl (by decide +kernel) rfl rfl (Nat.le_of_ble_eq_true rfl) dX8_feed_63 (fun H locs hP hD hS => ?_)
                have hP : va_P D vwCl [(m0, .inr (8, [.ref mH, .int 0, .long 0, .int 0, .long 0, .int 0, .int 0, .int 0, .int 0, .int 0, .int 0, .long 0, .int 0, .int 0, .ref mI, .ref mJ, .ref mS, .ref mD, .int 0, .int 0, .int 0, .long 0, .ref mX, .int 4, .int 0, .int 0, .ref mA, .ref mB, .ref mW, .ref mL, .int 0])), (mX, .inl (cB, 2000, .inl (upd (upd (upd (upd (fun _ => 0) (0 : Int32).toNatClampNeg (vp_nar .byte (v >>> ((0 : Int32).toInt64 &&& 63)).toInt32.toInt8.toInt32)) (1 : Int32).toNatClampNeg (vp_nar .byte (v >>> ((8 : Int32).toInt64 &&& 63)).toInt32.toInt8.toInt32)) (2 : Int32).toNatClampNeg (vp_nar .byte (v >>> ((16 : Int32).toInt64 &&& 63)).toInt32.toInt8.toInt32)) (3 : Int32).toNatClampNeg (vp_nar .byte (v >>> ((24 : Int32).toInt64 &&& 63)).toInt32.toInt8.toInt32))))] H := hP
                have hD : va_D A [(m0, .inr (8, [.ref mH, .int 0, .long 0, .int 0, .long 0, .int 0, .int 0, .int 0, .int 0, .int 0, .int 0, .long 0, .int 0, .int 0, .ref mI, .ref mJ, .ref mS, .ref mD, .int 0, .int 0, .int 0, .long 0, .ref mX, .int 4, .int 0, .int 0, .ref mA, .ref mB, .ref mW, .ref mL, .int 0])), (mX, .inl (cB, 2000, .inl (upd (upd (upd (upd (fun _ => 0) (0 : Int32).toNatClampNeg (vp_nar .byte (v >>> ((0 : Int32).toInt64 &&& 63)).toInt32.toInt8.toInt32)) (1 : Int32).toNatClampNeg (vp_nar .byte (v >>> ((8 : Int32).toInt64 &&& 63)).toInt32.toInt8.toInt32)) (2 : Int32).toNatClampNeg (vp_nar .byte (v >>> ((16 : Int32).toInt64 &&& 63)).toInt32.toInt8.toInt32)) (3 : Int32).toNatClampNeg (vp_nar .byte (v >>> ((24 : Int32).toInt64 &&& 63)).toInt32.toInt8.toInt32))))] := hD
                refine lv_iinc (v := 4) (lv' := [(4, .int 4), (0, .ref m0), (1, .long v), (3, .int 4)]) hx hb dX8_feed_66 hl (k := 0) rfl (by decide) (by decide) rfl (fun ls hl => ?_)
                refine lv_goto (tgt := 32) hx hb dX8_feed_69 (by decide) ?_
                refine lv_iload hx hb dX8_feed_32 (lv_at hl 0 rfl) ?_
                refine lv_iload_n hx hb dX8_feed_34 rfl (lv_at hl 3 rfl) ?_
                refine lv_icmp_ge (tgt := 72) hx hb dX8_feed_35 (by decide) (fun c_35_55 => ?_) (fun c_35_55 => ?_)
                · have t_35_55 := c_35_55
                  try simp only [kb_eq0, kb_ne0, lg_cmp_lt, lg_cmp_le, lg_cmp_gt, lg_cmp_ge, lg_cmp_eq] at t_35_55
                  try simp only [Int32.lt_iff_toInt_lt, Int32.le_iff_toInt_le, ← Int32.toInt_inj, Int64.lt_iff_toInt_lt, Int64.le_iff_toInt_le, ← Int64.toInt_inj, Int32.toInt_toInt64, Int32.reduceToInt, Int64.reduceToInt] at t_35_55
                  refine lv_aload_n hx hb dX8_feed_72 rfl (lv_at hl 1 rfl) ?_
                  refine va_get (D := D) (ci := 8) (v := .int 4) (C := RX8) (T := TX8) (N := 31) hx hb hts iX8_feed_X8 hown hK hP 0 rfl rfl 23 (by decide) (hts (.fieldLink RX8 243 "TapeCalculatorModel" "textSize" "I") (List.mem_of_getElem? (i := 2) rfl)) (fun _ h9 => h9) rfl dX8_feed_73 ?_
                  refine kIret (u := (4, (upd (upd (upd (upd (fun _ => 0) (0 : Int32).toNatClampNeg (vp_nar .byte (v >>> ((0 : Int32).toInt64 &&& 63)).toInt32.toInt8.toInt32)) (1 : Int32).toNatClampNeg (vp_nar .byte (v >>> ((8 : Int32).toInt64 &&& 63)).toInt32.toInt8.toInt32)) (2 : Int32).toNatClampNeg (vp_nar .byte (v >>> ((16 : Int32).toInt64 &&& 63)).toInt32.toInt8.toInt32)) (3 : Int32).toNatClampNeg (vp_nar .byte (v >>> ((24 : Int32).toInt64 &&& 63)).toInt32.toInt8.toInt32)))) hx hb hr rfl hlocks hS dX8_feed_76 ?_ (hP.sub [0, 1] rfl) (hD.sub [0, 1] (by decide) rfl)
                  first
                    | exact (kif_t (by decide)).symm
                    | exact (kif_t (by omega)).symm
                    | exact (kif_f (by omega)).symm
                · exact absurd (by decide) c_35_55
      · exact absurd (by decide) c_23_42
    · have t_9_40 := c_9_40
      try simp only [kb_eq0, kb_ne0, lg_cmp_lt, lg_cmp_le, lg_cmp_gt, lg_cmp_ge, lg_cmp_eq] at t_9_40
      try simp only [Int32.lt_iff_toInt_lt, Int32.le_iff_toInt_le, ← Int32.toInt_inj, Int64.lt_iff_toInt_lt, Int64.le_iff_toInt_le, ← Int64.toInt_inj, Int32.toInt_toInt64, Int32.reduceToInt, Int64.reduceToInt] at t_9_40
      omega
  · refine lv_iload_n hx hb dX8_feed_0 rfl (lv_at hl 2 rfl) ?_
    refine lv_i2l hx hb dX8_feed_1 rfl ?_
    refine lv_topl (fun x_57 ex_57 => ?_)
    obtain rfl : x_57 = 5 := ex_57.trans (by decide)
    refine lv_lconst (v := 1) hx hb dX8_feed_2 (by decide) ?_
    refine lv_ldc2 (v := 8) hx hb hown (hts (.constantLong RX8 241 (8)) (List.mem_of_getElem? (i := 1) rfl)) dX8_feed_3 ?_
    refine kCallI (wr := [(m0, .inr (8, [.ref mH, .int 0, .long 0, .int 0, .long 0, .int 0, .int 0, .int 0, .int 0, .int 0, .int 0, .long 0, .int 0, .int 0, .ref mI, .ref mJ, .ref mS, .ref mD, .int 0, .int 0, .int 0, .long 0, .ref mX, .int 0, .int 0, .int 0, .ref mA, .ref mB, .ref mW, .ref mL, .int 0])), (mX, .inl (cB, 2000, .inl (fun _ => 0)))]) (va_runS (As := [.long 5, .long 1, .long 8]) (rest := []) ⟨hx, hb, hml, hown, hts⟩ (r_in l D cI cL cB cZ cT _ 5 1 8) (va_cwS 3 hts gX8_feed_X8_in rfl rfl rfl (by decide +kernel) ⟨Nat.le_of_ble_eq_true rfl, Nat.le_of_ble_eq_true rfl⟩) (kPreS hG hP hD [] rfl (by decide)) rfl rfl hl.1 rfl (lv_room (Nat.le_of_ble_eq_true rfl)) dX8_feed_6 ⟨Nat.le_of_ble_eq_true rfl, Nat.le_of_ble_eq_true rfl⟩) hA hP hD hS [] [0, 1] rfl rfl (by decide) (by decide) (fun r_58 u_r_58 H locs wr_58 hP hD hS => ?_)
    have hP : va_P D vwCl [(m0, .inr (8, [.ref mH, .int 0, .long 0, .int 0, .long 0, .int 0, .int 0, .int 0, .int 0, .int 0, .int 0, .long 0, .int 0, .int 0, .ref mI, .ref mJ, .ref mS, .ref mD, .int 0, .int 0, .int 0, .long 0, .ref mX, .int 0, .int 0, .int 0, .ref mA, .ref mB, .ref mW, .ref mL, .int 0])), (mX, .inl (cB, 2000, .inl (fun _ => 0)))] H := hP
    have hD : va_D A [(m0, .inr (8, [.ref mH, .int 0, .long 0, .int 0, .long 0, .int 0, .int 0, .int 0, .int 0, .int 0, .int 0, .long 0, .int 0, .int 0, .ref mI, .ref mJ, .ref mS, .ref mD, .int 0, .int 0, .int 0, .long 0, .ref mX, .int 0, .int 0, .int 0, .ref mA, .ref mB, .ref mW, .ref mL, .int 0])), (mX, .inl (cB, 2000, .inl (fun _ => 0)))] := hD
    try dsimp only at wr_58
    subst wr_58
    refine lv_if_ne (tgt := 14) hx hb dX8_feed_9 (by decide) (fun c_9_58 => ?_) (fun c_9_58 => ?_)
    · have t_9_58 := c_9_58
      try simp only [kb_eq0, kb_ne0, lg_cmp_lt, lg_cmp_le, lg_cmp_gt, lg_cmp_ge, lg_cmp_eq] at t_9_58
      try simp only [Int32.lt_iff_toInt_lt, Int32.le_iff_toInt_le, ← Int32.toInt_inj, Int64.lt_iff_toInt_lt, Int64.le_iff_toInt_le, ← Int64.toInt_inj, Int32.toInt_toInt64, Int32.reduceToInt, Int64.reduceToInt] at t_9_58
      refine lv_aload_n hx hb dX8_feed_14 rfl (lv_at hl 0 rfl) ?_
      refine va_get (D := D) (ci := 8) (v := .int 0) (C := RX8) (T := TX8) (N := 31) hx hb hts iX8_feed_X8 hown hK hP 0 rfl rfl 23 (by decide) (hts (.fieldLink RX8 243 "TapeCalculatorModel" "textSize" "I") (List.mem_of_getElem? (i := 2) rfl)) (fun _ h9 => h9) rfl dX8_feed_15 ?_
      refine lv_iload_n hx hb dX8_feed_18 rfl (lv_at hl 2 rfl) ?_
      refine lv_iadd hx hb dX8_feed_19 ?_
      refine lv_topi (fun x_60 ex_60 => ?_)
      obtain rfl : x_60 = 5 := ex_60.trans (by decide)
      refine lv_sipush (v := 2000) hx hb dX8_feed_20 (by decide) ?_
      refine lv_icmp_le (tgt := 29) hx hb dX8_feed_23 (by decide) (fun c_23_60 => ?_) (fun c_23_60 => ?_)
      · have t_23_60 := c_23_60
        try simp only [kb_eq0, kb_ne0, lg_cmp_lt, lg_cmp_le, lg_cmp_gt, lg_cmp_ge, lg_cmp_eq] at t_23_60
        try simp only [Int32.lt_iff_toInt_lt, Int32.le_iff_toInt_le, ← Int32.toInt_inj, Int64.lt_iff_toInt_lt, Int64.le_iff_toInt_le, ← Int64.toInt_inj, Int32.toInt_toInt64, Int32.reduceToInt, Int64.reduceToInt] at t_23_60
        refine lv_iconst (v := 0) hx hb dX8_feed_29 (by decide) ?_
        refine lv_istore (lv' := [(4, .int 0), (0, .ref m0), (1, .long v), (3, .int 5)]) hx hb dX8_feed_30 hl (by decide) rfl (fun ls hl => ?_)
        refine lv_iload hx hb dX8_feed_32 (lv_at hl 0 rfl) ?_
        refine lv_iload_n hx hb dX8_feed_34 rfl (lv_at hl 3 rfl) ?_
        refine lv_icmp_ge (tgt := 72) hx hb dX8_feed_35 (by decide) (fun c_35_61 => ?_) (fun c_35_61 => ?_)
        · exact absurd c_35_61 (by decide)
        · have t_35_61 := c_35_61
          try simp only [kb_eq0, kb_ne0, lg_cmp_lt, lg_cmp_le, lg_cmp_gt, lg_cmp_ge, lg_cmp_eq] at t_35_61
          try simp only [Int32.lt_iff_toInt_lt, Int32.le_iff_toInt_le, ← Int32.toInt_inj, Int64.lt_iff_toInt_lt, Int64.le_iff_toInt_le, ← Int64.toInt_inj, Int32.toInt_toInt64, Int32.reduceToInt, Int64.reduceToInt] at t_35_61
          refine lv_aload_n hx hb dX8_feed_38 rfl (lv_at hl 1 rfl) ?_
          refine va_get (D := D) (ci := 8) (v := .ref mX) (C := RX8) (T := TX8) (N := 31) hx hb hts iX8_feed_X8 hown hK hP 0 rfl rfl 22 (by decide) (hts (.fieldLink RX8 26 "TapeCalculatorModel" "text" "[B") (List.mem_of_getElem? (i := 3) rfl)) (fun _ h9 => h9) rfl dX8_feed_39 ?_
          refine lv_aload_n hx hb dX8_feed_42 rfl (lv_at hl 1 rfl) ?_
          refine va_get (D := D) (ci := 8) (v := .int 0) (C := RX8) (T := TX8) (N := 31) hx hb hts iX8_feed_X8 hown hK hP 0 rfl rfl 23 (by decide) (hts (.fieldLink RX8 243 "TapeCalculatorModel" "textSize" "I") (List.mem_of_getElem? (i := 2) rfl)) (fun _ h9 => h9) rfl dX8_feed_43 ?_
          refine lv_lload_n hx hb dX8_feed_46 rfl (lv_at hl 2 rfl) ?_
          refine lv_bipush (v := 8) hx hb dX8_feed_47 (by decide) ?_
          refine lv_iload hx hb dX8_feed_49 (lv_at hl 0 rfl) ?_
          refine lv_imul hx hb dX8_feed_51 ?_
          refine lv_topi (fun x_63 ex_63 => ?_)
          obtain rfl : x_63 = 0 := ex_63.trans (by decide)
          refine lv_lshr hx hb dX8_feed_52 rfl ?_
          refine lv_l2i hx hb dX8_feed_53 rfl ?_
          refine lv_i2b hx hb dX8_feed_54 rfl ?_
          refine va_bast hx hb hK hP hD hS 1 2 rfl rfl (vp_in_iff.mpr (by decide)) dX8_feed_55 (fun H locs hP hD hS => ?_)
          have hP : va_P D vwCl [(m0, .inr (8, [.ref mH, .int 0, .long 0, .int 0, .long 0, .int 0, .int 0, .int 0, .int 0, .int 0, .int 0, .long 0, .int 0, .int 0, .ref mI, .ref mJ, .ref mS, .ref mD, .int 0, .int 0, .int 0, .long 0, .ref mX, .int 0, .int 0, .int 0, .ref mA, .ref mB, .ref mW, .ref mL, .int 0])), (mX, .inl (cB, 2000, .inl (upd (fun _ => 0) (0 : Int32).toNatClampNeg (vp_nar .byte (v >>> ((0 : Int32).toInt64 &&& 63)).toInt32.toInt8.toInt32))))] H := hP
          have hD : va_D A [(m0, .inr (8, [.ref mH, .int 0, .long 0, .int 0, .long 0, .int 0, .int 0, .int 0, .int 0, .int 0, .int 0, .long 0, .int 0, .int 0, .ref mI, .ref mJ, .ref mS, .ref mD, .int 0, .int 0, .int 0, .long 0, .ref mX, .int 0, .int 0, .int 0, .ref mA, .ref mB, .ref mW, .ref mL, .int 0])), (mX, .inl (cB, 2000, .inl (upd (fun _ => 0) (0 : Int32).toNatClampNeg (vp_nar .byte (v >>> ((0 : Int32).toInt64 &&& 63)).toInt32.toInt8.toInt32))))] := hD
          refine lv_aload_n hx hb dX8_feed_56 rfl (lv_at hl 1 rfl) ?_
          refine lv_dup hx hb dX8_feed_57 rfl ?_
          refine va_get (D := D) (ci := 8) (v := .int 0) (C := RX8) (T := TX8) (N := 31) hx hb hts iX8_feed_X8 hown hK hP 0 rfl rfl 23 (by decide) (hts (.fieldLink RX8 243 "TapeCalculatorModel" "textSize" "I") (List.mem_of_getElem? (i := 2) rfl)) (fun _ h9 => h9) rfl dX8_feed_58 ?_
          refine lv_iconst (v := 1) hx hb dX8_feed_61 (by decide) ?_
          refine lv_iadd hx hb dX8_feed_62 ?_
          refine lv_topi (fun x_64 ex_64 => ?_)
          obtain rfl : x_64 = 1 := ex_64.trans (by decide)
          refine va_put (D := D) (ci := 8) (v := .int 1) (ty := .int) (C := RX8) (T := TX8) (N := 31) hx hb hts iX8_feed_X8 tyX8 tyX8_ok nmX8 hown hK hP hD hS 0 rfl rfl 23 (by decide) (hts (.fieldLink RX8 243 "TapeCalculatorModel" "textSize" "I") (List.mem_of_getElem? (i := 2) rfl)) (fun _ h9 => h9) rfl (by decide +kernel) rfl rfl (Nat.le_of_ble_eq_true rfl) dX8_feed_63 (fun H locs hP hD hS => ?_)
          have hP : va_P D vwCl [(m0, .inr (8, [.ref mH, .int 0, .long 0, .int 0, .long 0, .int 0, .int 0, .int 0, .int 0, .int 0, .int 0, .long 0, .int 0, .int 0, .ref mI, .ref mJ, .ref mS, .ref mD, .int 0, .int 0, .int 0, .long 0, .ref mX, .int 1, .int 0, .int 0, .ref mA, .ref mB, .ref mW, .ref mL, .int 0])), (mX, .inl (cB, 2000, .inl (upd (fun _ => 0) (0 : Int32).toNatClampNeg (vp_nar .byte (v >>> ((0 : Int32).toInt64 &&& 63)).toInt32.toInt8.toInt32))))] H := hP
          have hD : va_D A [(m0, .inr (8, [.ref mH, .int 0, .long 0, .int 0, .long 0, .int 0, .int 0, .int 0, .int 0, .int 0, .int 0, .long 0, .int 0, .int 0, .ref mI, .ref mJ, .ref mS, .ref mD, .int 0, .int 0, .int 0, .long 0, .ref mX, .int 1, .int 0, .int 0, .ref mA, .ref mB, .ref mW, .ref mL, .int 0])), (mX, .inl (cB, 2000, .inl (upd (fun _ => 0) (0 : Int32).toNatClampNeg (vp_nar .byte (v >>> ((0 : Int32).toInt64 &&& 63)).toInt32.toInt8.toInt32))))] := hD
          refine lv_iinc (v := 1) (lv' := [(4, .int 1), (0, .ref m0), (1, .long v), (3, .int 5)]) hx hb dX8_feed_66 hl (k := 0) rfl (by decide) (by decide) rfl (fun ls hl => ?_)
          refine lv_goto (tgt := 32) hx hb dX8_feed_69 (by decide) ?_
          refine lv_iload hx hb dX8_feed_32 (lv_at hl 0 rfl) ?_
          refine lv_iload_n hx hb dX8_feed_34 rfl (lv_at hl 3 rfl) ?_
          refine lv_icmp_ge (tgt := 72) hx hb dX8_feed_35 (by decide) (fun c_35_64 => ?_) (fun c_35_64 => ?_)
          · exact absurd c_35_64 (by decide)
          · have t_35_64 := c_35_64
            try simp only [kb_eq0, kb_ne0, lg_cmp_lt, lg_cmp_le, lg_cmp_gt, lg_cmp_ge, lg_cmp_eq] at t_35_64
            try simp only [Int32.lt_iff_toInt_lt, Int32.le_iff_toInt_le, ← Int32.toInt_inj, Int64.lt_iff_toInt_lt, Int64.le_iff_toInt_le, ← Int64.toInt_inj, Int32.toInt_toInt64, Int32.reduceToInt, Int64.reduceToInt] at t_35_64
            refine lv_aload_n hx hb dX8_feed_38 rfl (lv_at hl 1 rfl) ?_
            refine va_get (D := D) (ci := 8) (v := .ref mX) (C := RX8) (T := TX8) (N := 31) hx hb hts iX8_feed_X8 hown hK hP 0 rfl rfl 22 (by decide) (hts (.fieldLink RX8 26 "TapeCalculatorModel" "text" "[B") (List.mem_of_getElem? (i := 3) rfl)) (fun _ h9 => h9) rfl dX8_feed_39 ?_
            refine lv_aload_n hx hb dX8_feed_42 rfl (lv_at hl 1 rfl) ?_
            refine va_get (D := D) (ci := 8) (v := .int 1) (C := RX8) (T := TX8) (N := 31) hx hb hts iX8_feed_X8 hown hK hP 0 rfl rfl 23 (by decide) (hts (.fieldLink RX8 243 "TapeCalculatorModel" "textSize" "I") (List.mem_of_getElem? (i := 2) rfl)) (fun _ h9 => h9) rfl dX8_feed_43 ?_
            refine lv_lload_n hx hb dX8_feed_46 rfl (lv_at hl 2 rfl) ?_
            refine lv_bipush (v := 8) hx hb dX8_feed_47 (by decide) ?_
            refine lv_iload hx hb dX8_feed_49 (lv_at hl 0 rfl) ?_
            refine lv_imul hx hb dX8_feed_51 ?_
            refine lv_topi (fun x_66 ex_66 => ?_)
            obtain rfl : x_66 = 8 := ex_66.trans (by decide)
            refine lv_lshr hx hb dX8_feed_52 rfl ?_
            refine lv_l2i hx hb dX8_feed_53 rfl ?_
            refine lv_i2b hx hb dX8_feed_54 rfl ?_
            refine va_bast hx hb hK hP hD hS 1 2 rfl rfl (vp_in_iff.mpr (by decide)) dX8_feed_55 (fun H locs hP hD hS => ?_)
            have hP : va_P D vwCl [(m0, .inr (8, [.ref mH, .int 0, .long 0, .int 0, .long 0, .int 0, .int 0, .int 0, .int 0, .int 0, .int 0, .long 0, .int 0, .int 0, .ref mI, .ref mJ, .ref mS, .ref mD, .int 0, .int 0, .int 0, .long 0, .ref mX, .int 1, .int 0, .int 0, .ref mA, .ref mB, .ref mW, .ref mL, .int 0])), (mX, .inl (cB, 2000, .inl (upd (upd (fun _ => 0) (0 : Int32).toNatClampNeg (vp_nar .byte (v >>> ((0 : Int32).toInt64 &&& 63)).toInt32.toInt8.toInt32)) (1 : Int32).toNatClampNeg (vp_nar .byte (v >>> ((8 : Int32).toInt64 &&& 63)).toInt32.toInt8.toInt32))))] H := hP
            have hD : va_D A [(m0, .inr (8, [.ref mH, .int 0, .long 0, .int 0, .long 0, .int 0, .int 0, .int 0, .int 0, .int 0, .int 0, .long 0, .int 0, .int 0, .ref mI, .ref mJ, .ref mS, .ref mD, .int 0, .int 0, .int 0, .long 0, .ref mX, .int 1, .int 0, .int 0, .ref mA, .ref mB, .ref mW, .ref mL, .int 0])), (mX, .inl (cB, 2000, .inl (upd (upd (fun _ => 0) (0 : Int32).toNatClampNeg (vp_nar .byte (v >>> ((0 : Int32).toInt64 &&& 63)).toInt32.toInt8.toInt32)) (1 : Int32).toNatClampNeg (vp_nar .byte (v >>> ((8 : Int32).toInt64 &&& 63)).toInt32.toInt8.toInt32))))] := hD
            refine lv_aload_n hx hb dX8_feed_56 rfl (lv_at hl 1 rfl) ?_
            refine lv_dup hx hb dX8_feed_57 rfl ?_
            refine va_get (D := D) (ci := 8) (v := .int 1) (C := RX8) (T := TX8) (N := 31) hx hb hts iX8_feed_X8 hown hK hP 0 rfl rfl 23 (by decide) (hts (.fieldLink RX8 243 "TapeCalculatorModel" "textSize" "I") (List.mem_of_getElem? (i := 2) rfl)) (fun _ h9 => h9) rfl dX8_feed_58 ?_
            refine lv_iconst (v := 1) hx hb dX8_feed_61 (by decide) ?_
            refine lv_iadd hx hb dX8_feed_62 ?_
            refine lv_topi (fun x_67 ex_67 => ?_)
            obtain rfl : x_67 = 2 := ex_67.trans (by decide)
            refine va_put (D := D) (ci := 8) (v := .int 2) (ty := .int) (C := RX8) (T := TX8) (N := 31) hx hb hts iX8_feed_X8 tyX8 tyX8_ok nmX8 hown hK hP hD hS 0 rfl rfl 23 (by decide) (hts (.fieldLink RX8 243 "TapeCalculatorModel" "textSize" "I") (List.mem_of_getElem? (i := 2) rfl)) (fun _ h9 => h9) rfl (by decide +kernel) rfl rfl (Nat.le_of_ble_eq_true rfl) dX8_feed_63 (fun H locs hP hD hS => ?_)
            have hP : va_P D vwCl [(m0, .inr (8, [.ref mH, .int 0, .long 0, .int 0, .long 0, .int 0, .int 0, .int 0, .int 0, .int 0, .int 0, .long 0, .int 0, .int 0, .ref mI, .ref mJ, .ref mS, .ref mD, .int 0, .int 0, .int 0, .long 0, .ref mX, .int 2, .int 0, .int 0, .ref mA, .ref mB, .ref mW, .ref mL, .int 0])), (mX, .inl (cB, 2000, .inl (upd (upd (fun _ => 0) (0 : Int32).toNatClampNeg (vp_nar .byte (v >>> ((0 : Int32).toInt64 &&& 63)).toInt32.toInt8.toInt32)) (1 : Int32).toNatClampNeg (vp_nar .byte (v >>> ((8 : Int32).toInt64 &&& 63)).toInt32.toInt8.toInt32))))] H := hP
            have hD : va_D A [(m0, .inr (8, [.ref mH, .int 0, .long 0, .int 0, .long 0, .int 0, .int 0, .int 0, .int 0, .int 0, .int 0, .long 0, .int 0, .int 0, .ref mI, .ref mJ, .ref mS, .ref mD, .int 0, .int 0, .int 0, .long 0, .ref mX, .int 2, .int 0, .int 0, .ref mA, .ref mB, .ref mW, .ref mL, .int 0])), (mX, .inl (cB, 2000, .inl (upd (upd (fun _ => 0) (0 : Int32).toNatClampNeg (vp_nar .byte (v >>> ((0 : Int32).toInt64 &&& 63)).toInt32.toInt8.toInt32)) (1 : Int32).toNatClampNeg (vp_nar .byte (v >>> ((8 : Int32).toInt64 &&& 63)).toInt32.toInt8.toInt32))))] := hD
            refine lv_iinc (v := 2) (lv' := [(4, .int 2), (0, .ref m0), (1, .long v), (3, .int 5)]) hx hb dX8_feed_66 hl (k := 0) rfl (by decide) (by decide) rfl (fun ls hl => ?_)
            refine lv_goto (tgt := 32) hx hb dX8_feed_69 (by decide) ?_
            refine lv_iload hx hb dX8_feed_32 (lv_at hl 0 rfl) ?_
            refine lv_iload_n hx hb dX8_feed_34 rfl (lv_at hl 3 rfl) ?_
            refine lv_icmp_ge (tgt := 72) hx hb dX8_feed_35 (by decide) (fun c_35_67 => ?_) (fun c_35_67 => ?_)
            · exact absurd c_35_67 (by decide)
            · have t_35_67 := c_35_67
              try simp only [kb_eq0, kb_ne0, lg_cmp_lt, lg_cmp_le, lg_cmp_gt, lg_cmp_ge, lg_cmp_eq] at t_35_67
              try simp only [Int32.lt_iff_toInt_lt, Int32.le_iff_toInt_le, ← Int32.toInt_inj, Int64.lt_iff_toInt_lt, Int64.le_iff_toInt_le, ← Int64.toInt_inj, Int32.toInt_toInt64, Int32.reduceToInt, Int64.reduceToInt] at t_35_67
              refine lv_aload_n hx hb dX8_feed_38 rfl (lv_at hl 1 rfl) ?_
              refine va_get (D := D) (ci := 8) (v := .ref mX) (C := RX8) (T := TX8) (N := 31) hx hb hts iX8_feed_X8 hown hK hP 0 rfl rfl 22 (by decide) (hts (.fieldLink RX8 26 "TapeCalculatorModel" "text" "[B") (List.mem_of_getElem? (i := 3) rfl)) (fun _ h9 => h9) rfl dX8_feed_39 ?_
              refine lv_aload_n hx hb dX8_feed_42 rfl (lv_at hl 1 rfl) ?_
              refine va_get (D := D) (ci := 8) (v := .int 2) (C := RX8) (T := TX8) (N := 31) hx hb hts iX8_feed_X8 hown hK hP 0 rfl rfl 23 (by decide) (hts (.fieldLink RX8 243 "TapeCalculatorModel" "textSize" "I") (List.mem_of_getElem? (i := 2) rfl)) (fun _ h9 => h9) rfl dX8_feed_43 ?_
              refine lv_lload_n hx hb dX8_feed_46 rfl (lv_at hl 2 rfl) ?_
              refine lv_bipush (v := 8) hx hb dX8_feed_47 (by decide) ?_
              refine lv_iload hx hb dX8_feed_49 (lv_at hl 0 rfl) ?_
              refine lv_imul hx hb dX8_feed_51 ?_
              refine lv_topi (fun x_69 ex_69 => ?_)
              obtain rfl : x_69 = 16 := ex_69.trans (by decide)
              refine lv_lshr hx hb dX8_feed_52 rfl ?_
              refine lv_l2i hx hb dX8_feed_53 rfl ?_
              refine lv_i2b hx hb dX8_feed_54 rfl ?_
              refine va_bast hx hb hK hP hD hS 1 2 rfl rfl (vp_in_iff.mpr (by decide)) dX8_feed_55 (fun H locs hP hD hS => ?_)
              have hP : va_P D vwCl [(m0, .inr (8, [.ref mH, .int 0, .long 0, .int 0, .long 0, .int 0, .int 0, .int 0, .int 0, .int 0, .int 0, .long 0, .int 0, .int 0, .ref mI, .ref mJ, .ref mS, .ref mD, .int 0, .int 0, .int 0, .long 0, .ref mX, .int 2, .int 0, .int 0, .ref mA, .ref mB, .ref mW, .ref mL, .int 0])), (mX, .inl (cB, 2000, .inl (upd (upd (upd (fun _ => 0) (0 : Int32).toNatClampNeg (vp_nar .byte (v >>> ((0 : Int32).toInt64 &&& 63)).toInt32.toInt8.toInt32)) (1 : Int32).toNatClampNeg (vp_nar .byte (v >>> ((8 : Int32).toInt64 &&& 63)).toInt32.toInt8.toInt32)) (2 : Int32).toNatClampNeg (vp_nar .byte (v >>> ((16 : Int32).toInt64 &&& 63)).toInt32.toInt8.toInt32))))] H := hP
              have hD : va_D A [(m0, .inr (8, [.ref mH, .int 0, .long 0, .int 0, .long 0, .int 0, .int 0, .int 0, .int 0, .int 0, .int 0, .long 0, .int 0, .int 0, .ref mI, .ref mJ, .ref mS, .ref mD, .int 0, .int 0, .int 0, .long 0, .ref mX, .int 2, .int 0, .int 0, .ref mA, .ref mB, .ref mW, .ref mL, .int 0])), (mX, .inl (cB, 2000, .inl (upd (upd (upd (fun _ => 0) (0 : Int32).toNatClampNeg (vp_nar .byte (v >>> ((0 : Int32).toInt64 &&& 63)).toInt32.toInt8.toInt32)) (1 : Int32).toNatClampNeg (vp_nar .byte (v >>> ((8 : Int32).toInt64 &&& 63)).toInt32.toInt8.toInt32)) (2 : Int32).toNatClampNeg (vp_nar .byte (v >>> ((16 : Int32).toInt64 &&& 63)).toInt32.toInt8.toInt32))))] := hD
              refine lv_aload_n hx hb dX8_feed_56 rfl (lv_at hl 1 rfl) ?_
              refine lv_dup hx hb dX8_feed_57 rfl ?_
              refine va_get (D := D) (ci := 8) (v := .int 2) (C := RX8) (T := TX8) (N := 31) hx hb hts iX8_feed_X8 hown hK hP 0 rfl rfl 23 (by decide) (hts (.fieldLink RX8 243 "TapeCalculatorModel" "textSize" "I") (List.mem_of_getElem? (i := 2) rfl)) (fun _ h9 => h9) rfl dX8_feed_58 ?_
              refine lv_iconst (v := 1) hx hb dX8_feed_61 (by decide) ?_
              refine lv_iadd hx hb dX8_feed_62 ?_
              refine lv_topi (fun x_70 ex_70 => ?_)
              obtain rfl : x_70 = 3 := ex_70.trans (by decide)
              refine va_put (D := D) (ci := 8) (v := .int 3) (ty := .int) (C := RX8) (T := TX8) (N := 31) hx hb hts iX8_feed_X8 tyX8 tyX8_ok nmX8 hown hK hP hD hS 0 rfl rfl 23 (by decide) (hts (.fieldLink RX8 243 "TapeCalculatorModel" "textSize" "I") (List.mem_of_getElem? (i := 2) rfl)) (fun _ h9 => h9) rfl (by decide +kernel) rfl rfl (Nat.le_of_ble_eq_true rfl) dX8_feed_63 (fun H locs hP hD hS => ?_)
              have hP : va_P D vwCl [(m0, .inr (8, [.ref mH, .int 0, .long 0, .int 0, .long 0, .int 0, .int 0, .int 0, .int 0, .int 0, .int 0, .long 0, .int 0, .int 0, .ref mI, .ref mJ, .ref mS, .ref mD, .int 0, .int 0, .int 0, .long 0, .ref mX, .int 3, .int 0, .int 0, .ref mA, .ref mB, .ref mW, .ref mL, .int 0])), (mX, .inl (cB, 2000, .inl (upd (upd (upd (fun _ => 0) (0 : Int32).toNatClampNeg (vp_nar .byte (v >>> ((0 : Int32).toInt64 &&& 63)).toInt32.toInt8.toInt32)) (1 : Int32).toNatClampNeg (vp_nar .byte (v >>> ((8 : Int32).toInt64 &&& 63)).toInt32.toInt8.toInt32)) (2 : Int32).toNatClampNeg (vp_nar .byte (v >>> ((16 : Int32).toInt64 &&& 63)).toInt32.toInt8.toInt32))))] H := hP
              have hD : va_D A [(m0, .inr (8, [.ref mH, .int 0, .long 0, .int 0, .long 0, .int 0, .int 0, .int 0, .int 0, .int 0, .int 0, .long 0, .int 0, .int 0, .ref mI, .ref mJ, .ref mS, .ref mD, .int 0, .int 0, .int 0, .long 0, .ref mX, .int 3, .int 0, .int 0, .ref mA, .ref mB, .ref mW, .ref mL, .int 0])), (mX, .inl (cB, 2000, .inl (upd (upd (upd (fun _ => 0) (0 : Int32).toNatClampNeg (vp_nar .byte (v >>> ((0 : Int32).toInt64 &&& 63)).toInt32.toInt8.toInt32)) (1 : Int32).toNatClampNeg (vp_nar .byte (v >>> ((8 : Int32).toInt64 &&& 63)).toInt32.toInt8.toInt32)) (2 : Int32).toNatClampNeg (vp_nar .byte (v >>> ((16 : Int32).toInt64 &&& 63)).toInt32.toInt8.toInt32))))] := hD
              refine lv_iinc (v := 3) (lv' := [(4, .int 3), (0, .ref m0), (1, .long v), (3, .int 5)]) hx hb dX8_feed_66 hl (k := 0) rfl (by decide) (by decide) rfl (fun ls hl => ?_)
              refine lv_goto (tgt := 32) hx hb dX8_feed_69 (by decide) ?_
              refine lv_iload hx hb dX8_feed_32 (lv_at hl 0 rfl) ?_
              refine lv_iload_n hx hb dX8_feed_34 rfl (lv_at hl 3 rfl) ?_
              refine lv_icmp_ge (tgt := 72) hx hb dX8_feed_35 (by decide) (fun c_35_70 => ?_) (fun c_35_70 => ?_)
              · exact absurd c_35_70 (by decide)
              · have t_35_70 := c_35_70
                try simp only [kb_eq0, kb_ne0, lg_cmp_lt, lg_cmp_le, lg_cmp_gt, lg_cmp_ge, lg_cmp_eq] at t_35_70
                try simp only [Int32.lt_iff_toInt_lt, Int32.le_iff_toInt_le, ← Int32.toInt_inj, Int64.lt_iff_toInt_lt, Int64.le_iff_toInt_le, ← Int64.toInt_inj, Int32.toInt_toInt64, Int32.reduceToInt, Int64.reduceToInt] at t_35_70
                refine lv_aload_n hx hb dX8_feed_38 rfl (lv_at hl 1 rfl) ?_
                refine va_get (D := D) (ci := 8) (v := .ref mX) (C := RX8) (T := TX8) (N := 31) hx hb hts iX8_feed_X8 hown hK hP 0 rfl rfl 22 (by decide) (hts (.fieldLink RX8 26 "TapeCalculatorModel" "text" "[B") (List.mem_of_getElem? (i := 3) rfl)) (fun _ h9 => h9) rfl dX8_feed_39 ?_
                refine lv_aload_n hx hb dX8_feed_42 rfl (lv_at hl 1 rfl) ?_
                refine va_get (D := D) (ci := 8) (v := .int 3) (C := RX8) (T := TX8) (N := 31) hx hb hts iX8_feed_X8 hown hK hP 0 rfl rfl 23 (by decide) (hts (.fieldLink RX8 243 "TapeCalculatorModel" "textSize" "I") (List.mem_of_getElem? (i := 2) rfl)) (fun _ h9 => h9) rfl dX8_feed_43 ?_
                refine lv_lload_n hx hb dX8_feed_46 rfl (lv_at hl 2 rfl) ?_
                refine lv_bipush (v := 8) hx hb dX8_feed_47 (by decide) ?_
                refine lv_iload hx hb dX8_feed_49 (lv_at hl 0 rfl) ?_
                refine lv_imul hx hb dX8_feed_51 ?_
                refine lv_topi (fun x_72 ex_72 => ?_)
                obtain rfl : x_72 = 24 := ex_72.trans (by decide)
                refine lv_lshr hx hb dX8_feed_52 rfl ?_
                refine lv_l2i hx hb dX8_feed_53 rfl ?_
                refine lv_i2b hx hb dX8_feed_54 rfl ?_
                refine va_bast hx hb hK hP hD hS 1 2 rfl rfl (vp_in_iff.mpr (by decide)) dX8_feed_55 (fun H locs hP hD hS => ?_)
                have hP : va_P D vwCl [(m0, .inr (8, [.ref mH, .int 0, .long 0, .int 0, .long 0, .int 0, .int 0, .int 0, .int 0, .int 0, .int 0, .long 0, .int 0, .int 0, .ref mI, .ref mJ, .ref mS, .ref mD, .int 0, .int 0, .int 0, .long 0, .ref mX, .int 3, .int 0, .int 0, .ref mA, .ref mB, .ref mW, .ref mL, .int 0])), (mX, .inl (cB, 2000, .inl (upd (upd (upd (upd (fun _ => 0) (0 : Int32).toNatClampNeg (vp_nar .byte (v >>> ((0 : Int32).toInt64 &&& 63)).toInt32.toInt8.toInt32)) (1 : Int32).toNatClampNeg (vp_nar .byte (v >>> ((8 : Int32).toInt64 &&& 63)).toInt32.toInt8.toInt32)) (2 : Int32).toNatClampNeg (vp_nar .byte (v >>> ((16 : Int32).toInt64 &&& 63)).toInt32.toInt8.toInt32)) (3 : Int32).toNatClampNeg (vp_nar .byte (v >>> ((24 : Int32).toInt64 &&& 63)).toInt32.toInt8.toInt32))))] H := hP
                have hD : va_D A [(m0, .inr (8, [.ref mH, .int 0, .long 0, .int 0, .long 0, .int 0, .int 0, .int 0, .int 0, .int 0, .int 0, .long 0, .int 0, .int 0, .ref mI, .ref mJ, .ref mS, .ref mD, .int 0, .int 0, .int 0, .long 0, .ref mX, .int 3, .int 0, .int 0, .ref mA, .ref mB, .ref mW, .ref mL, .int 0])), (mX, .inl (cB, 2000, .inl (upd (upd (upd (upd (fun _ => 0) (0 : Int32).toNatClampNeg (vp_nar .byte (v >>> ((0 : Int32).toInt64 &&& 63)).toInt32.toInt8.toInt32)) (1 : Int32).toNatClampNeg (vp_nar .byte (v >>> ((8 : Int32).toInt64 &&& 63)).toInt32.toInt8.toInt32)) (2 : Int32).toNatClampNeg (vp_nar .byte (v >>> ((16 : Int32).toInt64 &&& 63)).toInt32.toInt8.toInt32)) (3 : Int32).toNatClampNeg (vp_nar .byte (v >>> ((24 : Int32).toInt64 &&& 63)).toInt32.toInt8.toInt32))))] := hD
                refine lv_aload_n hx hb dX8_feed_56 rfl (lv_at hl 1 rfl) ?_
                refine lv_dup hx hb dX8_feed_57 rfl ?_
                refine va_get (D := D) (ci := 8) (v := .int 3) (C := RX8) (T := TX8) (N := 31) hx hb hts iX8_feed_X8 hown hK hP 0 rfl rfl 23 (by decide) (hts (.fieldLink RX8 243 "TapeCalculatorModel" "textSize" "I") (List.mem_of_getElem? (i := 2) rfl)) (fun _ h9 => h9) rfl dX8_feed_58 ?_
                refine lv_iconst (v := 1) hx hb dX8_feed_61 (by decide) ?_
                refine lv_iadd hx hb dX8_feed_62 ?_
                refine lv_topi (fun x_73 ex_73 => ?_)
                obtain rfl : x_73 = 4 := ex_73.trans (by decide)
                refine va_put (D := D) (ci := 8) (v := .int 4) (ty := .int) (C := RX8) (T := TX8) (N := 31) hx hb hts iX8_feed_X8 tyX8 tyX8_ok nmX8 hown hK hP hD hS 0 rfl rfl 23 (by decide) (hts (.fieldLink RX8 243 "TapeCalculatorModel" "textSize" "I") (List.mem_of_getElem? (i := 2) rfl)) (fun _ h9 => h9) rfl (by decide +kernel) rfl rfl (Nat.le_of_ble_eq_true rfl) dX8_feed_63 (fun H locs hP hD hS => ?_)
                have hP : va_P D vwCl [(m0, .inr (8, [.ref mH, .int 0, .long 0, .int 0, .long 0, .int 0, .int 0, .int 0, .int 0, .int 0, .int 0, .long 0, .int 0, .int 0, .ref mI, .ref mJ, .ref mS, .ref mD, .int 0, .int 0, .int 0, .long 0, .ref mX, .int 4, .int 0, .int 0, .ref mA, .ref mB, .ref mW, .ref mL, .int 0])), (mX, .inl (cB, 2000, .inl (upd (upd (upd (upd (fun _ => 0) (0 : Int32).toNatClampNeg (vp_nar .byte (v >>> ((0 : Int32).toInt64 &&& 63)).toInt32.toInt8.toInt32)) (1 : Int32).toNatClampNeg (vp_nar .byte (v >>> ((8 : Int32).toInt64 &&& 63)).toInt32.toInt8.toInt32)) (2 : Int32).toNatClampNeg (vp_nar .byte (v >>> ((16 : Int32).toInt64 &&& 63)).toInt32.toInt8.toInt32)) (3 : Int32).toNatClampNeg (vp_nar .byte (v >>> ((24 : Int32).toInt64 &&& 63)).toInt32.toInt8.toInt32))))] H := hP
                have hD : va_D A [(m0, .inr (8, [.ref mH, .int 0, .long 0, .int 0, .long 0, .int 0, .int 0, .int 0, .int 0, .int 0, .int 0, .long 0, .int 0, .int 0, .ref mI, .ref mJ, .ref mS, .ref mD, .int 0, .int 0, .int 0, .long 0, .ref mX, .int 4, .int 0, .int 0, .ref mA, .ref mB, .ref mW, .ref mL, .int 0])), (mX, .inl (cB, 2000, .inl (upd (upd (upd (upd (fun _ => 0) (0 : Int32).toNatClampNeg (vp_nar .byte (v >>> ((0 : Int32).toInt64 &&& 63)).toInt32.toInt8.toInt32)) (1 : Int32).toNatClampNeg (vp_nar .byte (v >>> ((8 : Int32).toInt64 &&& 63)).toInt32.toInt8.toInt32)) (2 : Int32).toNatClampNeg (vp_nar .byte (v >>> ((16 : Int32).toInt64 &&& 63)).toInt32.toInt8.toInt32)) (3 : Int32).toNatClampNeg (vp_nar .byte (v >>> ((24 : Int32).toInt64 &&& 63)).toInt32.toInt8.toInt32))))] := hD
                refine lv_iinc (v := 4) (lv' := [(4, .int 4), (0, .ref m0), (1, .long v), (3, .int 5)]) hx hb dX8_feed_66 hl (k := 0) rfl (by decide) (by decide) rfl (fun ls hl => ?_)
                refine lv_goto (tgt := 32) hx hb dX8_feed_69 (by decide) ?_
                refine lv_iload hx hb dX8_feed_32 (lv_at hl 0 rfl) ?_
                refine lv_iload_n hx hb dX8_feed_34 rfl (lv_at hl 3 rfl) ?_
                refine lv_icmp_ge (tgt := 72) hx hb dX8_feed_35 (by decide) (fun c_35_73 => ?_) (fun c_35_73 => ?_)
                · exact absurd c_35_73 (by decide)
                · have t_35_73 := c_35_73
                  try simp only [kb_eq0, kb_ne0, lg_cmp_lt, lg_cmp_le, lg_cmp_gt, lg_cmp_ge, lg_cmp_eq] at t_35_73
                  try simp only [Int32.lt_iff_toInt_lt, Int32.le_iff_toInt_le, ← Int32.toInt_inj, Int64.lt_iff_toInt_lt, Int64.le_iff_toInt_le, ← Int64.toInt_inj, Int32.toInt_toInt64, Int32.reduceToInt, Int64.reduceToInt] at t_35_73
                  refine lv_aload_n hx hb dX8_feed_38 rfl (lv_at hl 1 rfl) ?_
                  refine va_get (D := D) (ci := 8) (v := .ref mX) (C := RX8) (T := TX8) (N := 31) hx hb hts iX8_feed_X8 hown hK hP 0 rfl rfl 22 (by decide) (hts (.fieldLink RX8 26 "TapeCalculatorModel" "text" "[B") (List.mem_of_getElem? (i := 3) rfl)) (fun _ h9 => h9) rfl dX8_feed_39 ?_
                  refine lv_aload_n hx hb dX8_feed_42 rfl (lv_at hl 1 rfl) ?_
                  refine va_get (D := D) (ci := 8) (v := .int 4) (C := RX8) (T := TX8) (N := 31) hx hb hts iX8_feed_X8 hown hK hP 0 rfl rfl 23 (by decide) (hts (.fieldLink RX8 243 "TapeCalculatorModel" "textSize" "I") (List.mem_of_getElem? (i := 2) rfl)) (fun _ h9 => h9) rfl dX8_feed_43 ?_
                  refine lv_lload_n hx hb dX8_feed_46 rfl (lv_at hl 2 rfl) ?_
                  refine lv_bipush (v := 8) hx hb dX8_feed_47 (by decide) ?_
                  refine lv_iload hx hb dX8_feed_49 (lv_at hl 0 rfl) ?_
                  refine lv_imul hx hb dX8_feed_51 ?_
                  refine lv_topi (fun x_75 ex_75 => ?_)
                  obtain rfl : x_75 = 32 := ex_75.trans (by decide)
                  refine lv_lshr hx hb dX8_feed_52 rfl ?_
                  refine lv_l2i hx hb dX8_feed_53 rfl ?_
                  refine lv_i2b hx hb dX8_feed_54 rfl ?_
                  refine va_bast hx hb hK hP hD hS 1 2 rfl rfl (vp_in_iff.mpr (by decide)) dX8_feed_55 (fun H locs hP hD hS => ?_)
                  have hP : va_P D vwCl [(m0, .inr (8, [.ref mH, .int 0, .long 0, .int 0, .long 0, .int 0, .int 0, .int 0, .int 0, .int 0, .int 0, .long 0, .int 0, .int 0, .ref mI, .ref mJ, .ref mS, .ref mD, .int 0, .int 0, .int 0, .long 0, .ref mX, .int 4, .int 0, .int 0, .ref mA, .ref mB, .ref mW, .ref mL, .int 0])), (mX, .inl (cB, 2000, .inl (upd (upd (upd (upd (upd (fun _ => 0) (0 : Int32).toNatClampNeg (vp_nar .byte (v >>> ((0 : Int32).toInt64 &&& 63)).toInt32.toInt8.toInt32)) (1 : Int32).toNatClampNeg (vp_nar .byte (v >>> ((8 : Int32).toInt64 &&& 63)).toInt32.toInt8.toInt32)) (2 : Int32).toNatClampNeg (vp_nar .byte (v >>> ((16 : Int32).toInt64 &&& 63)).toInt32.toInt8.toInt32)) (3 : Int32).toNatClampNeg (vp_nar .byte (v >>> ((24 : Int32).toInt64 &&& 63)).toInt32.toInt8.toInt32)) (4 : Int32).toNatClampNeg (vp_nar .byte (v >>> ((32 : Int32).toInt64 &&& 63)).toInt32.toInt8.toInt32))))] H := hP
                  have hD : va_D A [(m0, .inr (8, [.ref mH, .int 0, .long 0, .int 0, .long 0, .int 0, .int 0, .int 0, .int 0, .int 0, .int 0, .long 0, .int 0, .int 0, .ref mI, .ref mJ, .ref mS, .ref mD, .int 0, .int 0, .int 0, .long 0, .ref mX, .int 4, .int 0, .int 0, .ref mA, .ref mB, .ref mW, .ref mL, .int 0])), (mX, .inl (cB, 2000, .inl (upd (upd (upd (upd (upd (fun _ => 0) (0 : Int32).toNatClampNeg (vp_nar .byte (v >>> ((0 : Int32).toInt64 &&& 63)).toInt32.toInt8.toInt32)) (1 : Int32).toNatClampNeg (vp_nar .byte (v >>> ((8 : Int32).toInt64 &&& 63)).toInt32.toInt8.toInt32)) (2 : Int32).toNatClampNeg (vp_nar .byte (v >>> ((16 : Int32).toInt64 &&& 63)).toInt32.toInt8.toInt32)) (3 : Int32).toNatClampNeg (vp_nar .byte (v >>> ((24 : Int32).toInt64 &&& 63)).toInt32.toInt8.toInt32)) (4 : Int32).toNatClampNeg (vp_nar .byte (v >>> ((32 : Int32).toInt64 &&& 63)).toInt32.toInt8.toInt32))))] := hD
                  refine lv_aload_n hx hb dX8_feed_56 rfl (lv_at hl 1 rfl) ?_
                  refine lv_dup hx hb dX8_feed_57 rfl ?_
                  refine va_get (D := D) (ci := 8) (v := .int 4) (C := RX8) (T := TX8) (N := 31) hx hb hts iX8_feed_X8 hown hK hP 0 rfl rfl 23 (by decide) (hts (.fieldLink RX8 243 "TapeCalculatorModel" "textSize" "I") (List.mem_of_getElem? (i := 2) rfl)) (fun _ h9 => h9) rfl dX8_feed_58 ?_
                  refine lv_iconst (v := 1) hx hb dX8_feed_61 (by decide) ?_
                  refine lv_iadd hx hb dX8_feed_62 ?_
                  refine lv_topi (fun x_76 ex_76 => ?_)
                  obtain rfl : x_76 = 5 := ex_76.trans (by decide)
                  refine va_put (D := D) (ci := 8) (v := .int 5) (ty := .int) (C := RX8) (T := TX8) (N := 31) hx hb hts iX8_feed_X8 tyX8 tyX8_ok nmX8 hown hK hP hD hS 0 rfl rfl 23 (by decide) (hts (.fieldLink RX8 243 "TapeCalculatorModel" "textSize" "I") (List.mem_of_getElem? (i := 2) rfl)) (fun _ h9 => h9) rfl (by decide +kernel) rfl rfl (Nat.le_of_ble_eq_true rfl) dX8_feed_63 (fun H locs hP hD hS => ?_)
                  have hP : va_P D vwCl [(m0, .inr (8, [.ref mH, .int 0, .long 0, .int 0, .long 0, .int 0, .int 0, .int 0, .int 0, .int 0, .int 0, .long 0, .int 0, .int 0, .ref mI, .ref mJ, .ref mS, .ref mD, .int 0, .int 0, .int 0, .long 0, .ref mX, .int 5, .int 0, .int 0, .ref mA, .ref mB, .ref mW, .ref mL, .int 0])), (mX, .inl (cB, 2000, .inl (upd (upd (upd (upd (upd (fun _ => 0) (0 : Int32).toNatClampNeg (vp_nar .byte (v >>> ((0 : Int32).toInt64 &&& 63)).toInt32.toInt8.toInt32)) (1 : Int32).toNatClampNeg (vp_nar .byte (v >>> ((8 : Int32).toInt64 &&& 63)).toInt32.toInt8.toInt32)) (2 : Int32).toNatClampNeg (vp_nar .byte (v >>> ((16 : Int32).toInt64 &&& 63)).toInt32.toInt8.toInt32)) (3 : Int32).toNatClampNeg (vp_nar .byte (v >>> ((24 : Int32).toInt64 &&& 63)).toInt32.toInt8.toInt32)) (4 : Int32).toNatClampNeg (vp_nar .byte (v >>> ((32 : Int32).toInt64 &&& 63)).toInt32.toInt8.toInt32))))] H := hP
                  have hD : va_D A [(m0, .inr (8, [.ref mH, .int 0, .long 0, .int 0, .long 0, .int 0, .int 0, .int 0, .int 0, .int 0, .int 0, .long 0, .int 0, .int 0, .ref mI, .ref mJ, .ref mS, .ref mD, .int 0, .int 0, .int 0, .long 0, .ref mX, .int 5, .int 0, .int 0, .ref mA, .ref mB, .ref mW, .ref mL, .int 0])), (mX, .inl (cB, 2000, .inl (upd (upd (upd (upd (upd (fun _ => 0) (0 : Int32).toNatClampNeg (vp_nar .byte (v >>> ((0 : Int32).toInt64 &&& 63)).toInt32.toInt8.toInt32)) (1 : Int32).toNatClampNeg (vp_nar .byte (v >>> ((8 : Int32).toInt64 &&& 63)).toInt32.toInt8.toInt32)) (2 : Int32).toNatClampNeg (vp_nar .byte (v >>> ((16 : Int32).toInt64 &&& 63)).toInt32.toInt8.toInt32)) (3 : Int32).toNatClampNeg (vp_nar .byte (v >>> ((24 : Int32).toInt64 &&& 63)).toInt32.toInt8.toInt32)) (4 : Int32).toNatClampNeg (vp_nar .byte (v >>> ((32 : Int32).toInt64 &&& 63)).toInt32.toInt8.toInt32))))] := hD
                  refine lv_iinc (v := 5) (lv' := [(4, .int 5), (0, .ref m0), (1, .long v), (3, .int 5)]) hx hb dX8_feed_66 hl (k := 0) rfl (by decide) (by decide) rfl (fun ls hl => ?_)
                  refine lv_goto (tgt := 32) hx hb dX8_feed_69 (by decide) ?_
                  refine lv_iload hx hb dX8_feed_32 (lv_at hl 0 rfl) ?_
                  refine lv_iload_n hx hb dX8_feed_34 rfl (lv_at hl 3 rfl) ?_
                  refine lv_icmp_ge (tgt := 72) hx hb dX8_feed_35 (by decide) (fun c_35_76 => ?_) (fun c_35_76 => ?_)
                  · have t_35_76 := c_35_76
                    try simp only [kb_eq0, kb_ne0, lg_cmp_lt, lg_cmp_le, lg_cmp_gt, lg_cmp_ge, lg_cmp_eq] at t_35_76
                    try simp only [Int32.lt_iff_toInt_lt, Int32.le_iff_toInt_le, ← Int32.toInt_inj, Int64.lt_iff_toInt_lt, Int64.le_iff_toInt_le, ← Int64.toInt_inj, Int32.toInt_toInt64, Int32.reduceToInt, Int64.reduceToInt] at t_35_76
                    refine lv_aload_n hx hb dX8_feed_72 rfl (lv_at hl 1 rfl) ?_
                    refine va_get (D := D) (ci := 8) (v := .int 5) (C := RX8) (T := TX8) (N := 31) hx hb hts iX8_feed_X8 hown hK hP 0 rfl rfl 23 (by decide) (hts (.fieldLink RX8 243 "TapeCalculatorModel" "textSize" "I") (List.mem_of_getElem? (i := 2) rfl)) (fun _ h9 => h9) rfl dX8_feed_73 ?_
                    refine kIret (u := (5, (upd (upd (upd (upd (upd (fun _ => 0) (0 : Int32).toNatClampNeg (vp_nar .byte (v >>> ((0 : Int32).toInt64 &&& 63)).toInt32.toInt8.toInt32)) (1 : Int32).toNatClampNeg (vp_nar .byte (v >>> ((8 : Int32).toInt64 &&& 63)).toInt32.toInt8.toInt32)) (2 : Int32).toNatClampNeg (vp_nar .byte (v >>> ((16 : Int32).toInt64 &&& 63)).toInt32.toInt8.toInt32)) (3 : Int32).toNatClampNeg (vp_nar .byte (v >>> ((24 : Int32).toInt64 &&& 63)).toInt32.toInt8.toInt32)) (4 : Int32).toNatClampNeg (vp_nar .byte (v >>> ((32 : Int32).toInt64 &&& 63)).toInt32.toInt8.toInt32)))) hx hb hr rfl hlocks hS dX8_feed_76 ?_ (hP.sub [0, 1] rfl) (hD.sub [0, 1] (by decide) rfl)
                    first
                      | exact (kif_t (by decide)).symm
                      | exact (kif_t (by omega)).symm
                      | exact (kif_f (by omega)).symm
                  · exact absurd (by decide) c_35_76
      · exact absurd (by decide) c_23_60
    · have t_9_58 := c_9_58
      try simp only [kb_eq0, kb_ne0, lg_cmp_lt, lg_cmp_le, lg_cmp_gt, lg_cmp_ge, lg_cmp_eq] at t_9_58
      try simp only [Int32.lt_iff_toInt_lt, Int32.le_iff_toInt_le, ← Int32.toInt_inj, Int64.lt_iff_toInt_lt, Int64.le_iff_toInt_le, ← Int64.toInt_inj, Int32.toInt_toInt64, Int32.reduceToInt, Int64.reduceToInt] at t_9_58
      omega
  · refine lv_iload_n hx hb dX8_feed_0 rfl (lv_at hl 2 rfl) ?_
    refine lv_i2l hx hb dX8_feed_1 rfl ?_
    refine lv_topl (fun x_78 ex_78 => ?_)
    obtain rfl : x_78 = 6 := ex_78.trans (by decide)
    refine lv_lconst (v := 1) hx hb dX8_feed_2 (by decide) ?_
    refine lv_ldc2 (v := 8) hx hb hown (hts (.constantLong RX8 241 (8)) (List.mem_of_getElem? (i := 1) rfl)) dX8_feed_3 ?_
    refine kCallI (wr := [(m0, .inr (8, [.ref mH, .int 0, .long 0, .int 0, .long 0, .int 0, .int 0, .int 0, .int 0, .int 0, .int 0, .long 0, .int 0, .int 0, .ref mI, .ref mJ, .ref mS, .ref mD, .int 0, .int 0, .int 0, .long 0, .ref mX, .int 0, .int 0, .int 0, .ref mA, .ref mB, .ref mW, .ref mL, .int 0])), (mX, .inl (cB, 2000, .inl (fun _ => 0)))]) (va_runS (As := [.long 6, .long 1, .long 8]) (rest := []) ⟨hx, hb, hml, hown, hts⟩ (r_in l D cI cL cB cZ cT _ 6 1 8) (va_cwS 3 hts gX8_feed_X8_in rfl rfl rfl (by decide +kernel) ⟨Nat.le_of_ble_eq_true rfl, Nat.le_of_ble_eq_true rfl⟩) (kPreS hG hP hD [] rfl (by decide)) rfl rfl hl.1 rfl (lv_room (Nat.le_of_ble_eq_true rfl)) dX8_feed_6 ⟨Nat.le_of_ble_eq_true rfl, Nat.le_of_ble_eq_true rfl⟩) hA hP hD hS [] [0, 1] rfl rfl (by decide) (by decide) (fun r_79 u_r_79 H locs wr_79 hP hD hS => ?_)
    have hP : va_P D vwCl [(m0, .inr (8, [.ref mH, .int 0, .long 0, .int 0, .long 0, .int 0, .int 0, .int 0, .int 0, .int 0, .int 0, .long 0, .int 0, .int 0, .ref mI, .ref mJ, .ref mS, .ref mD, .int 0, .int 0, .int 0, .long 0, .ref mX, .int 0, .int 0, .int 0, .ref mA, .ref mB, .ref mW, .ref mL, .int 0])), (mX, .inl (cB, 2000, .inl (fun _ => 0)))] H := hP
    have hD : va_D A [(m0, .inr (8, [.ref mH, .int 0, .long 0, .int 0, .long 0, .int 0, .int 0, .int 0, .int 0, .int 0, .int 0, .long 0, .int 0, .int 0, .ref mI, .ref mJ, .ref mS, .ref mD, .int 0, .int 0, .int 0, .long 0, .ref mX, .int 0, .int 0, .int 0, .ref mA, .ref mB, .ref mW, .ref mL, .int 0])), (mX, .inl (cB, 2000, .inl (fun _ => 0)))] := hD
    try dsimp only at wr_79
    subst wr_79
    refine lv_if_ne (tgt := 14) hx hb dX8_feed_9 (by decide) (fun c_9_79 => ?_) (fun c_9_79 => ?_)
    · have t_9_79 := c_9_79
      try simp only [kb_eq0, kb_ne0, lg_cmp_lt, lg_cmp_le, lg_cmp_gt, lg_cmp_ge, lg_cmp_eq] at t_9_79
      try simp only [Int32.lt_iff_toInt_lt, Int32.le_iff_toInt_le, ← Int32.toInt_inj, Int64.lt_iff_toInt_lt, Int64.le_iff_toInt_le, ← Int64.toInt_inj, Int32.toInt_toInt64, Int32.reduceToInt, Int64.reduceToInt] at t_9_79
      refine lv_aload_n hx hb dX8_feed_14 rfl (lv_at hl 0 rfl) ?_
      refine va_get (D := D) (ci := 8) (v := .int 0) (C := RX8) (T := TX8) (N := 31) hx hb hts iX8_feed_X8 hown hK hP 0 rfl rfl 23 (by decide) (hts (.fieldLink RX8 243 "TapeCalculatorModel" "textSize" "I") (List.mem_of_getElem? (i := 2) rfl)) (fun _ h9 => h9) rfl dX8_feed_15 ?_
      refine lv_iload_n hx hb dX8_feed_18 rfl (lv_at hl 2 rfl) ?_
      refine lv_iadd hx hb dX8_feed_19 ?_
      refine lv_topi (fun x_81 ex_81 => ?_)
      obtain rfl : x_81 = 6 := ex_81.trans (by decide)
      refine lv_sipush (v := 2000) hx hb dX8_feed_20 (by decide) ?_
      refine lv_icmp_le (tgt := 29) hx hb dX8_feed_23 (by decide) (fun c_23_81 => ?_) (fun c_23_81 => ?_)
      · have t_23_81 := c_23_81
        try simp only [kb_eq0, kb_ne0, lg_cmp_lt, lg_cmp_le, lg_cmp_gt, lg_cmp_ge, lg_cmp_eq] at t_23_81
        try simp only [Int32.lt_iff_toInt_lt, Int32.le_iff_toInt_le, ← Int32.toInt_inj, Int64.lt_iff_toInt_lt, Int64.le_iff_toInt_le, ← Int64.toInt_inj, Int32.toInt_toInt64, Int32.reduceToInt, Int64.reduceToInt] at t_23_81
        refine lv_iconst (v := 0) hx hb dX8_feed_29 (by decide) ?_
        refine lv_istore (lv' := [(4, .int 0), (0, .ref m0), (1, .long v), (3, .int 6)]) hx hb dX8_feed_30 hl (by decide) rfl (fun ls hl => ?_)
        refine lv_iload hx hb dX8_feed_32 (lv_at hl 0 rfl) ?_
        refine lv_iload_n hx hb dX8_feed_34 rfl (lv_at hl 3 rfl) ?_
        refine lv_icmp_ge (tgt := 72) hx hb dX8_feed_35 (by decide) (fun c_35_82 => ?_) (fun c_35_82 => ?_)
        · exact absurd c_35_82 (by decide)
        · have t_35_82 := c_35_82
          try simp only [kb_eq0, kb_ne0, lg_cmp_lt, lg_cmp_le, lg_cmp_gt, lg_cmp_ge, lg_cmp_eq] at t_35_82
          try simp only [Int32.lt_iff_toInt_lt, Int32.le_iff_toInt_le, ← Int32.toInt_inj, Int64.lt_iff_toInt_lt, Int64.le_iff_toInt_le, ← Int64.toInt_inj, Int32.toInt_toInt64, Int32.reduceToInt, Int64.reduceToInt] at t_35_82
          refine lv_aload_n hx hb dX8_feed_38 rfl (lv_at hl 1 rfl) ?_
          refine va_get (D := D) (ci := 8) (v := .ref mX) (C := RX8) (T := TX8) (N := 31) hx hb hts iX8_feed_X8 hown hK hP 0 rfl rfl 22 (by decide) (hts (.fieldLink RX8 26 "TapeCalculatorModel" "text" "[B") (List.mem_of_getElem? (i := 3) rfl)) (fun _ h9 => h9) rfl dX8_feed_39 ?_
          refine lv_aload_n hx hb dX8_feed_42 rfl (lv_at hl 1 rfl) ?_
          refine va_get (D := D) (ci := 8) (v := .int 0) (C := RX8) (T := TX8) (N := 31) hx hb hts iX8_feed_X8 hown hK hP 0 rfl rfl 23 (by decide) (hts (.fieldLink RX8 243 "TapeCalculatorModel" "textSize" "I") (List.mem_of_getElem? (i := 2) rfl)) (fun _ h9 => h9) rfl dX8_feed_43 ?_
          refine lv_lload_n hx hb dX8_feed_46 rfl (lv_at hl 2 rfl) ?_
          refine lv_bipush (v := 8) hx hb dX8_feed_47 (by decide) ?_
          refine lv_iload hx hb dX8_feed_49 (lv_at hl 0 rfl) ?_
          refine lv_imul hx hb dX8_feed_51 ?_
          refine lv_topi (fun x_84 ex_84 => ?_)
          obtain rfl : x_84 = 0 := ex_84.trans (by decide)
          refine lv_lshr hx hb dX8_feed_52 rfl ?_
          refine lv_l2i hx hb dX8_feed_53 rfl ?_
          refine lv_i2b hx hb dX8_feed_54 rfl ?_
          refine va_bast hx hb hK hP hD hS 1 2 rfl rfl (vp_in_iff.mpr (by decide)) dX8_feed_55 (fun H locs hP hD hS => ?_)
          have hP : va_P D vwCl [(m0, .inr (8, [.ref mH, .int 0, .long 0, .int 0, .long 0, .int 0, .int 0, .int 0, .int 0, .int 0, .int 0, .long 0, .int 0, .int 0, .ref mI, .ref mJ, .ref mS, .ref mD, .int 0, .int 0, .int 0, .long 0, .ref mX, .int 0, .int 0, .int 0, .ref mA, .ref mB, .ref mW, .ref mL, .int 0])), (mX, .inl (cB, 2000, .inl (upd (fun _ => 0) (0 : Int32).toNatClampNeg (vp_nar .byte (v >>> ((0 : Int32).toInt64 &&& 63)).toInt32.toInt8.toInt32))))] H := hP
          have hD : va_D A [(m0, .inr (8, [.ref mH, .int 0, .long 0, .int 0, .long 0, .int 0, .int 0, .int 0, .int 0, .int 0, .int 0, .long 0, .int 0, .int 0, .ref mI, .ref mJ, .ref mS, .ref mD, .int 0, .int 0, .int 0, .long 0, .ref mX, .int 0, .int 0, .int 0, .ref mA, .ref mB, .ref mW, .ref mL, .int 0])), (mX, .inl (cB, 2000, .inl (upd (fun _ => 0) (0 : Int32).toNatClampNeg (vp_nar .byte (v >>> ((0 : Int32).toInt64 &&& 63)).toInt32.toInt8.toInt32))))] := hD
          refine lv_aload_n hx hb dX8_feed_56 rfl (lv_at hl 1 rfl) ?_
          refine lv_dup hx hb dX8_feed_57 rfl ?_
          refine va_get (D := D) (ci := 8) (v := .int 0) (C := RX8) (T := TX8) (N := 31) hx hb hts iX8_feed_X8 hown hK hP 0 rfl rfl 23 (by decide) (hts (.fieldLink RX8 243 "TapeCalculatorModel" "textSize" "I") (List.mem_of_getElem? (i := 2) rfl)) (fun _ h9 => h9) rfl dX8_feed_58 ?_
          refine lv_iconst (v := 1) hx hb dX8_feed_61 (by decide) ?_
          refine lv_iadd hx hb dX8_feed_62 ?_
          refine lv_topi (fun x_85 ex_85 => ?_)
          obtain rfl : x_85 = 1 := ex_85.trans (by decide)
          refine va_put (D := D) (ci := 8) (v := .int 1) (ty := .int) (C := RX8) (T := TX8) (N := 31) hx hb hts iX8_feed_X8 tyX8 tyX8_ok nmX8 hown hK hP hD hS 0 rfl rfl 23 (by decide) (hts (.fieldLink RX8 243 "TapeCalculatorModel" "textSize" "I") (List.mem_of_getElem? (i := 2) rfl)) (fun _ h9 => h9) rfl (by decide +kernel) rfl rfl (Nat.le_of_ble_eq_true rfl) dX8_feed_63 (fun H locs hP hD hS => ?_)
          have hP : va_P D vwCl [(m0, .inr (8, [.ref mH, .int 0, .long 0, .int 0, .long 0, .int 0, .int 0, .int 0, .int 0, .int 0, .int 0, .long 0, .int 0, .int 0, .ref mI, .ref mJ, .ref mS, .ref mD, .int 0, .int 0, .int 0, .long 0, .ref mX, .int 1, .int 0, .int 0, .ref mA, .ref mB, .ref mW, .ref mL, .int 0])), (mX, .inl (cB, 2000, .inl (upd (fun _ => 0) (0 : Int32).toNatClampNeg (vp_nar .byte (v >>> ((0 : Int32).toInt64 &&& 63)).toInt32.toInt8.toInt32))))] H := hP
          have hD : va_D A [(m0, .inr (8, [.ref mH, .int 0, .long 0, .int 0, .long 0, .int 0, .int 0, .int 0, .int 0, .int 0, .int 0, .long 0, .int 0, .int 0, .ref mI, .ref mJ, .ref mS, .ref mD, .int 0, .int 0, .int 0, .long 0, .ref mX, .int 1, .int 0, .int 0, .ref mA, .ref mB, .ref mW, .ref mL, .int 0])), (mX, .inl (cB, 2000, .inl (upd (fun _ => 0) (0 : Int32).toNatClampNeg (vp_nar .byte (v >>> ((0 : Int32).toInt64 &&& 63)).toInt32.toInt8.toInt32))))] := hD
          refine lv_iinc (v := 1) (lv' := [(4, .int 1), (0, .ref m0), (1, .long v), (3, .int 6)]) hx hb dX8_feed_66 hl (k := 0) rfl (by decide) (by decide) rfl (fun ls hl => ?_)
          refine lv_goto (tgt := 32) hx hb dX8_feed_69 (by decide) ?_
          refine lv_iload hx hb dX8_feed_32 (lv_at hl 0 rfl) ?_
          refine lv_iload_n hx hb dX8_feed_34 rfl (lv_at hl 3 rfl) ?_
          refine lv_icmp_ge (tgt := 72) hx hb dX8_feed_35 (by decide) (fun c_35_85 => ?_) (fun c_35_85 => ?_)
          · exact absurd c_35_85 (by decide)
          · have t_35_85 := c_35_85
            try simp only [kb_eq0, kb_ne0, lg_cmp_lt, lg_cmp_le, lg_cmp_gt, lg_cmp_ge, lg_cmp_eq] at t_35_85
            try simp only [Int32.lt_iff_toInt_lt, Int32.le_iff_toInt_le, ← Int32.toInt_inj, Int64.lt_iff_toInt_lt, Int64.le_iff_toInt_le, ← Int64.toInt_inj, Int32.toInt_toInt64, Int32.reduceToInt, Int64.reduceToInt] at t_35_85
            refine lv_aload_n hx hb dX8_feed_38 rfl (lv_at hl 1 rfl) ?_
            refine va_get (D := D) (ci := 8) (v := .ref mX) (C := RX8) (T := TX8) (N := 31) hx hb hts iX8_feed_X8 hown hK hP 0 rfl rfl 22 (by decide) (hts (.fieldLink RX8 26 "TapeCalculatorModel" "text" "[B") (List.mem_of_getElem? (i := 3) rfl)) (fun _ h9 => h9) rfl dX8_feed_39 ?_
            refine lv_aload_n hx hb dX8_feed_42 rfl (lv_at hl 1 rfl) ?_
            refine va_get (D := D) (ci := 8) (v := .int 1) (C := RX8) (T := TX8) (N := 31) hx hb hts iX8_feed_X8 hown hK hP 0 rfl rfl 23 (by decide) (hts (.fieldLink RX8 243 "TapeCalculatorModel" "textSize" "I") (List.mem_of_getElem? (i := 2) rfl)) (fun _ h9 => h9) rfl dX8_feed_43 ?_
            refine lv_lload_n hx hb dX8_feed_46 rfl (lv_at hl 2 rfl) ?_
            refine lv_bipush (v := 8) hx hb dX8_feed_47 (by decide) ?_
            refine lv_iload hx hb dX8_feed_49 (lv_at hl 0 rfl) ?_
            refine lv_imul hx hb dX8_feed_51 ?_
            refine lv_topi (fun x_87 ex_87 => ?_)
            obtain rfl : x_87 = 8 := ex_87.trans (by decide)
            refine lv_lshr hx hb dX8_feed_52 rfl ?_
            refine lv_l2i hx hb dX8_feed_53 rfl ?_
            refine lv_i2b hx hb dX8_feed_54 rfl ?_
            refine va_bast hx hb hK hP hD hS 1 2 rfl rfl (vp_in_iff.mpr (by decide)) dX8_feed_55 (fun H locs hP hD hS => ?_)
            have hP : va_P D vwCl [(m0, .inr (8, [.ref mH, .int 0, .long 0, .int 0, .long 0, .int 0, .int 0, .int 0, .int 0, .int 0, .int 0, .long 0, .int 0, .int 0, .ref mI, .ref mJ, .ref mS, .ref mD, .int 0, .int 0, .int 0, .long 0, .ref mX, .int 1, .int 0, .int 0, .ref mA, .ref mB, .ref mW, .ref mL, .int 0])), (mX, .inl (cB, 2000, .inl (upd (upd (fun _ => 0) (0 : Int32).toNatClampNeg (vp_nar .byte (v >>> ((0 : Int32).toInt64 &&& 63)).toInt32.toInt8.toInt32)) (1 : Int32).toNatClampNeg (vp_nar .byte (v >>> ((8 : Int32).toInt64 &&& 63)).toInt32.toInt8.toInt32))))] H := hP
            have hD : va_D A [(m0, .inr (8, [.ref mH, .int 0, .long 0, .int 0, .long 0, .int 0, .int 0, .int 0, .int 0, .int 0, .int 0, .long 0, .int 0, .int 0, .ref mI, .ref mJ, .ref mS, .ref mD, .int 0, .int 0, .int 0, .long 0, .ref mX, .int 1, .int 0, .int 0, .ref mA, .ref mB, .ref mW, .ref mL, .int 0])), (mX, .inl (cB, 2000, .inl (upd (upd (fun _ => 0) (0 : Int32).toNatClampNeg (vp_nar .byte (v >>> ((0 : Int32).toInt64 &&& 63)).toInt32.toInt8.toInt32)) (1 : Int32).toNatClampNeg (vp_nar .byte (v >>> ((8 : Int32).toInt64 &&& 63)).toInt32.toInt8.toInt32))))] := hD
            refine lv_aload_n hx hb dX8_feed_56 rfl (lv_at hl 1 rfl) ?_
            refine lv_dup hx hb dX8_feed_57 rfl ?_
            refine va_get (D := D) (ci := 8) (v := .int 1) (C := RX8) (T := TX8) (N := 31) hx hb hts iX8_feed_X8 hown hK hP 0 rfl rfl 23 (by decide) (hts (.fieldLink RX8 243 "TapeCalculatorModel" "textSize" "I") (List.mem_of_getElem? (i := 2) rfl)) (fun _ h9 => h9) rfl dX8_feed_58 ?_
            refine lv_iconst (v := 1) hx hb dX8_feed_61 (by decide) ?_
            refine lv_iadd hx hb dX8_feed_62 ?_
            refine lv_topi (fun x_88 ex_88 => ?_)
            obtain rfl : x_88 = 2 := ex_88.trans (by decide)
            refine va_put (D := D) (ci := 8) (v := .int 2) (ty := .int) (C := RX8) (T := TX8) (N := 31) hx hb hts iX8_feed_X8 tyX8 tyX8_ok nmX8 hown hK hP hD hS 0 rfl rfl 23 (by decide) (hts (.fieldLink RX8 243 "TapeCalculatorModel" "textSize" "I") (List.mem_of_getElem? (i := 2) rfl)) (fun _ h9 => h9) rfl (by decide +kernel) rfl rfl (Nat.le_of_ble_eq_true rfl) dX8_feed_63 (fun H locs hP hD hS => ?_)
            have hP : va_P D vwCl [(m0, .inr (8, [.ref mH, .int 0, .long 0, .int 0, .long 0, .int 0, .int 0, .int 0, .int 0, .int 0, .int 0, .long 0, .int 0, .int 0, .ref mI, .ref mJ, .ref mS, .ref mD, .int 0, .int 0, .int 0, .long 0, .ref mX, .int 2, .int 0, .int 0, .ref mA, .ref mB, .ref mW, .ref mL, .int 0])), (mX, .inl (cB, 2000, .inl (upd (upd (fun _ => 0) (0 : Int32).toNatClampNeg (vp_nar .byte (v >>> ((0 : Int32).toInt64 &&& 63)).toInt32.toInt8.toInt32)) (1 : Int32).toNatClampNeg (vp_nar .byte (v >>> ((8 : Int32).toInt64 &&& 63)).toInt32.toInt8.toInt32))))] H := hP
            have hD : va_D A [(m0, .inr (8, [.ref mH, .int 0, .long 0, .int 0, .long 0, .int 0, .int 0, .int 0, .int 0, .int 0, .int 0, .long 0, .int 0, .int 0, .ref mI, .ref mJ, .ref mS, .ref mD, .int 0, .int 0, .int 0, .long 0, .ref mX, .int 2, .int 0, .int 0, .ref mA, .ref mB, .ref mW, .ref mL, .int 0])), (mX, .inl (cB, 2000, .inl (upd (upd (fun _ => 0) (0 : Int32).toNatClampNeg (vp_nar .byte (v >>> ((0 : Int32).toInt64 &&& 63)).toInt32.toInt8.toInt32)) (1 : Int32).toNatClampNeg (vp_nar .byte (v >>> ((8 : Int32).toInt64 &&& 63)).toInt32.toInt8.toInt32))))] := hD
            refine lv_iinc (v := 2) (lv' := [(4, .int 2), (0, .ref m0), (1, .long v), (3, .int 6)]) hx hb dX8_feed_66 hl (k := 0) rfl (by decide) (by decide) rfl (fun ls hl => ?_)
            refine lv_goto (tgt := 32) hx hb dX8_feed_69 (by decide) ?_
            refine lv_iload hx hb dX8_feed_32 (lv_at hl 0 rfl) ?_
            refine lv_iload_n hx hb dX8_feed_34 rfl (lv_at hl 3 rfl) ?_
            refine lv_icmp_ge (tgt := 72) hx hb dX8_feed_35 (by decide) (fun c_35_88 => ?_) (fun c_35_88 => ?_)
            · exact absurd c_35_88 (by decide)
            · have t_35_88 := c_35_88
              try simp only [kb_eq0, kb_ne0, lg_cmp_lt, lg_cmp_le, lg_cmp_gt, lg_cmp_ge, lg_cmp_eq] at t_35_88
              try simp only [Int32.lt_iff_toInt_lt, Int32.le_iff_toInt_le, ← Int32.toInt_inj, Int64.lt_iff_toInt_lt, Int64.le_iff_toInt_le, ← Int64.toInt_inj, Int32.toInt_toInt64, Int32.reduceToInt, Int64.reduceToInt] at t_35_88
              refine lv_aload_n hx hb dX8_feed_38 rfl (lv_at hl 1 rfl) ?_
              refine va_get (D := D) (ci := 8) (v := .ref mX) (C := RX8) (T := TX8) (N := 31) hx hb hts iX8_feed_X8 hown hK hP 0 rfl rfl 22 (by decide) (hts (.fieldLink RX8 26 "TapeCalculatorModel" "text" "[B") (List.mem_of_getElem? (i := 3) rfl)) (fun _ h9 => h9) rfl dX8_feed_39 ?_
              refine lv_aload_n hx hb dX8_feed_42 rfl (lv_at hl 1 rfl) ?_
              refine va_get (D := D) (ci := 8) (v := .int 2) (C := RX8) (T := TX8) (N := 31) hx hb hts iX8_feed_X8 hown hK hP 0 rfl rfl 23 (by decide) (hts (.fieldLink RX8 243 "TapeCalculatorModel" "textSize" "I") (List.mem_of_getElem? (i := 2) rfl)) (fun _ h9 => h9) rfl dX8_feed_43 ?_
              refine lv_lload_n hx hb dX8_feed_46 rfl (lv_at hl 2 rfl) ?_
              refine lv_bipush (v := 8) hx hb dX8_feed_47 (by decide) ?_
              refine lv_iload hx hb dX8_feed_49 (lv_at hl 0 rfl) ?_
              refine lv_imul hx hb dX8_feed_51 ?_
              refine lv_topi (fun x_90 ex_90 => ?_)
              obtain rfl : x_90 = 16 := ex_90.trans (by decide)
              refine lv_lshr hx hb dX8_feed_52 rfl ?_
              refine lv_l2i hx hb dX8_feed_53 rfl ?_
              refine lv_i2b hx hb dX8_feed_54 rfl ?_
              refine va_bast hx hb hK hP hD hS 1 2 rfl rfl (vp_in_iff.mpr (by decide)) dX8_feed_55 (fun H locs hP hD hS => ?_)
              have hP : va_P D vwCl [(m0, .inr (8, [.ref mH, .int 0, .long 0, .int 0, .long 0, .int 0, .int 0, .int 0, .int 0, .int 0, .int 0, .long 0, .int 0, .int 0, .ref mI, .ref mJ, .ref mS, .ref mD, .int 0, .int 0, .int 0, .long 0, .ref mX, .int 2, .int 0, .int 0, .ref mA, .ref mB, .ref mW, .ref mL, .int 0])), (mX, .inl (cB, 2000, .inl (upd (upd (upd (fun _ => 0) (0 : Int32).toNatClampNeg (vp_nar .byte (v >>> ((0 : Int32).toInt64 &&& 63)).toInt32.toInt8.toInt32)) (1 : Int32).toNatClampNeg (vp_nar .byte (v >>> ((8 : Int32).toInt64 &&& 63)).toInt32.toInt8.toInt32)) (2 : Int32).toNatClampNeg (vp_nar .byte (v >>> ((16 : Int32).toInt64 &&& 63)).toInt32.toInt8.toInt32))))] H := hP
              have hD : va_D A [(m0, .inr (8, [.ref mH, .int 0, .long 0, .int 0, .long 0, .int 0, .int 0, .int 0, .int 0, .int 0, .int 0, .long 0, .int 0, .int 0, .ref mI, .ref mJ, .ref mS, .ref mD, .int 0, .int 0, .int 0, .long 0, .ref mX, .int 2, .int 0, .int 0, .ref mA, .ref mB, .ref mW, .ref mL, .int 0])), (mX, .inl (cB, 2000, .inl (upd (upd (upd (fun _ => 0) (0 : Int32).toNatClampNeg (vp_nar .byte (v >>> ((0 : Int32).toInt64 &&& 63)).toInt32.toInt8.toInt32)) (1 : Int32).toNatClampNeg (vp_nar .byte (v >>> ((8 : Int32).toInt64 &&& 63)).toInt32.toInt8.toInt32)) (2 : Int32).toNatClampNeg (vp_nar .byte (v >>> ((16 : Int32).toInt64 &&& 63)).toInt32.toInt8.toInt32))))] := hD
              refine lv_aload_n hx hb dX8_feed_56 rfl (lv_at hl 1 rfl) ?_
              refine lv_dup hx hb dX8_feed_57 rfl ?_
              refine va_get (D := D) (ci := 8) (v := .int 2) (C := RX8) (T := TX8) (N := 31) hx hb hts iX8_feed_X8 hown hK hP 0 rfl rfl 23 (by decide) (hts (.fieldLink RX8 243 "TapeCalculatorModel" "textSize" "I") (List.mem_of_getElem? (i := 2) rfl)) (fun _ h9 => h9) rfl dX8_feed_58 ?_
              refine lv_iconst (v := 1) hx hb dX8_feed_61 (by decide) ?_
              refine lv_iadd hx hb dX8_feed_62 ?_
              refine lv_topi (fun x_91 ex_91 => ?_)
              obtain rfl : x_91 = 3 := ex_91.trans (by decide)
              refine va_put (D := D) (ci := 8) (v := .int 3) (ty := .int) (C := RX8) (T := TX8) (N := 31) hx hb hts iX8_feed_X8 tyX8 tyX8_ok nmX8 hown hK hP hD hS 0 rfl rfl 23 (by decide) (hts (.fieldLink RX8 243 "TapeCalculatorModel" "textSize" "I") (List.mem_of_getElem? (i := 2) rfl)) (fun _ h9 => h9) rfl (by decide +kernel) rfl rfl (Nat.le_of_ble_eq_true rfl) dX8_feed_63 (fun H locs hP hD hS => ?_)
              have hP : va_P D vwCl [(m0, .inr (8, [.ref mH, .int 0, .long 0, .int 0, .long 0, .int 0, .int 0, .int 0, .int 0, .int 0, .int 0, .long 0, .int 0, .int 0, .ref mI, .ref mJ, .ref mS, .ref mD, .int 0, .int 0, .int 0, .long 0, .ref mX, .int 3, .int 0, .int 0, .ref mA, .ref mB, .ref mW, .ref mL, .int 0])), (mX, .inl (cB, 2000, .inl (upd (upd (upd (fun _ => 0) (0 : Int32).toNatClampNeg (vp_nar .byte (v >>> ((0 : Int32).toInt64 &&& 63)).toInt32.toInt8.toInt32)) (1 : Int32).toNatClampNeg (vp_nar .byte (v >>> ((8 : Int32).toInt64 &&& 63)).toInt32.toInt8.toInt32)) (2 : Int32).toNatClampNeg (vp_nar .byte (v >>> ((16 : Int32).toInt64 &&& 63)).toInt32.toInt8.toInt32))))] H := hP
              have hD : va_D A [(m0, .inr (8, [.ref mH, .int 0, .long 0, .int 0, .long 0, .int 0, .int 0, .int 0, .int 0, .int 0, .int 0, .long 0, .int 0, .int 0, .ref mI, .ref mJ, .ref mS, .ref mD, .int 0, .int 0, .int 0, .long 0, .ref mX, .int 3, .int 0, .int 0, .ref mA, .ref mB, .ref mW, .ref mL, .int 0])), (mX, .inl (cB, 2000, .inl (upd (upd (upd (fun _ => 0) (0 : Int32).toNatClampNeg (vp_nar .byte (v >>> ((0 : Int32).toInt64 &&& 63)).toInt32.toInt8.toInt32)) (1 : Int32).toNatClampNeg (vp_nar .byte (v >>> ((8 : Int32).toInt64 &&& 63)).toInt32.toInt8.toInt32)) (2 : Int32).toNatClampNeg (vp_nar .byte (v >>> ((16 : Int32).toInt64 &&& 63)).toInt32.toInt8.toInt32))))] := hD
              refine lv_iinc (v := 3) (lv' := [(4, .int 3), (0, .ref m0), (1, .long v), (3, .int 6)]) hx hb dX8_feed_66 hl (k := 0) rfl (by decide) (by decide) rfl (fun ls hl => ?_)
              refine lv_goto (tgt := 32) hx hb dX8_feed_69 (by decide) ?_
              refine lv_iload hx hb dX8_feed_32 (lv_at hl 0 rfl) ?_
              refine lv_iload_n hx hb dX8_feed_34 rfl (lv_at hl 3 rfl) ?_
              refine lv_icmp_ge (tgt := 72) hx hb dX8_feed_35 (by decide) (fun c_35_91 => ?_) (fun c_35_91 => ?_)
              · exact absurd c_35_91 (by decide)
              · have t_35_91 := c_35_91
                try simp only [kb_eq0, kb_ne0, lg_cmp_lt, lg_cmp_le, lg_cmp_gt, lg_cmp_ge, lg_cmp_eq] at t_35_91
                try simp only [Int32.lt_iff_toInt_lt, Int32.le_iff_toInt_le, ← Int32.toInt_inj, Int64.lt_iff_toInt_lt, Int64.le_iff_toInt_le, ← Int64.toInt_inj, Int32.toInt_toInt64, Int32.reduceToInt, Int64.reduceToInt] at t_35_91
                refine lv_aload_n hx hb dX8_feed_38 rfl (lv_at hl 1 rfl) ?_
                refine va_get (D := D) (ci := 8) (v := .ref mX) (C := RX8) (T := TX8) (N := 31) hx hb hts iX8_feed_X8 hown hK hP 0 rfl rfl 22 (by decide) (hts (.fieldLink RX8 26 "TapeCalculatorModel" "text" "[B") (List.mem_of_getElem? (i := 3) rfl)) (fun _ h9 => h9) rfl dX8_feed_39 ?_
                refine lv_aload_n hx hb dX8_feed_42 rfl (lv_at hl 1 rfl) ?_
                refine va_get (D := D) (ci := 8) (v := .int 3) (C := RX8) (T := TX8) (N := 31) hx hb hts iX8_feed_X8 hown hK hP 0 rfl rfl 23 (by decide) (hts (.fieldLink RX8 243 "TapeCalculatorModel" "textSize" "I") (List.mem_of_getElem? (i := 2) rfl)) (fun _ h9 => h9) rfl dX8_feed_43 ?_
                refine lv_lload_n hx hb dX8_feed_46 rfl (lv_at hl 2 rfl) ?_
                refine lv_bipush (v := 8) hx hb dX8_feed_47 (by decide) ?_
                refine lv_iload hx hb dX8_feed_49 (lv_at hl 0 rfl) ?_
                refine lv_imul hx hb dX8_feed_51 ?_
                refine lv_topi (fun x_93 ex_93 => ?_)
                obtain rfl : x_93 = 24 := ex_93.trans (by decide)
                refine lv_lshr hx hb dX8_feed_52 rfl ?_
                refine lv_l2i hx hb dX8_feed_53 rfl ?_
                refine lv_i2b hx hb dX8_feed_54 rfl ?_
                refine va_bast hx hb hK hP hD hS 1 2 rfl rfl (vp_in_iff.mpr (by decide)) dX8_feed_55 (fun H locs hP hD hS => ?_)
                have hP : va_P D vwCl [(m0, .inr (8, [.ref mH, .int 0, .long 0, .int 0, .long 0, .int 0, .int 0, .int 0, .int 0, .int 0, .int 0, .long 0, .int 0, .int 0, .ref mI, .ref mJ, .ref mS, .ref mD, .int 0, .int 0, .int 0, .long 0, .ref mX, .int 3, .int 0, .int 0, .ref mA, .ref mB, .ref mW, .ref mL, .int 0])), (mX, .inl (cB, 2000, .inl (upd (upd (upd (upd (fun _ => 0) (0 : Int32).toNatClampNeg (vp_nar .byte (v >>> ((0 : Int32).toInt64 &&& 63)).toInt32.toInt8.toInt32)) (1 : Int32).toNatClampNeg (vp_nar .byte (v >>> ((8 : Int32).toInt64 &&& 63)).toInt32.toInt8.toInt32)) (2 : Int32).toNatClampNeg (vp_nar .byte (v >>> ((16 : Int32).toInt64 &&& 63)).toInt32.toInt8.toInt32)) (3 : Int32).toNatClampNeg (vp_nar .byte (v >>> ((24 : Int32).toInt64 &&& 63)).toInt32.toInt8.toInt32))))] H := hP
                have hD : va_D A [(m0, .inr (8, [.ref mH, .int 0, .long 0, .int 0, .long 0, .int 0, .int 0, .int 0, .int 0, .int 0, .int 0, .long 0, .int 0, .int 0, .ref mI, .ref mJ, .ref mS, .ref mD, .int 0, .int 0, .int 0, .long 0, .ref mX, .int 3, .int 0, .int 0, .ref mA, .ref mB, .ref mW, .ref mL, .int 0])), (mX, .inl (cB, 2000, .inl (upd (upd (upd (upd (fun _ => 0) (0 : Int32).toNatClampNeg (vp_nar .byte (v >>> ((0 : Int32).toInt64 &&& 63)).toInt32.toInt8.toInt32)) (1 : Int32).toNatClampNeg (vp_nar .byte (v >>> ((8 : Int32).toInt64 &&& 63)).toInt32.toInt8.toInt32)) (2 : Int32).toNatClampNeg (vp_nar .byte (v >>> ((16 : Int32).toInt64 &&& 63)).toInt32.toInt8.toInt32)) (3 : Int32).toNatClampNeg (vp_nar .byte (v >>> ((24 : Int32).toInt64 &&& 63)).toInt32.toInt8.toInt32))))] := hD
                refine lv_aload_n hx hb dX8_feed_56 rfl (lv_at hl 1 rfl) ?_
                refine lv_dup hx hb dX8_feed_57 rfl ?_
                refine va_get (D := D) (ci := 8) (v := .int 3) (C := RX8) (T := TX8) (N := 31) hx hb hts iX8_feed_X8 hown hK hP 0 rfl rfl 23 (by decide) (hts (.fieldLink RX8 243 "TapeCalculatorModel" "textSize" "I") (List.mem_of_getElem? (i := 2) rfl)) (fun _ h9 => h9) rfl dX8_feed_58 ?_
                refine lv_iconst (v := 1) hx hb dX8_feed_61 (by decide) ?_
                refine lv_iadd hx hb dX8_feed_62 ?_
                refine lv_topi (fun x_94 ex_94 => ?_)
                obtain rfl : x_94 = 4 := ex_94.trans (by decide)
                refine va_put (D := D) (ci := 8) (v := .int 4) (ty := .int) (C := RX8) (T := TX8) (N := 31) hx hb hts iX8_feed_X8 tyX8 tyX8_ok nmX8 hown hK hP hD hS 0 rfl rfl 23 (by decide) (hts (.fieldLink RX8 243 "TapeCalculatorModel" "textSize" "I") (List.mem_of_getElem? (i := 2) rfl)) (fun _ h9 => h9) rfl (by decide +kernel) rfl rfl (Nat.le_of_ble_eq_true rfl) dX8_feed_63 (fun H locs hP hD hS => ?_)
                have hP : va_P D vwCl [(m0, .inr (8, [.ref mH, .int 0, .long 0, .int 0, .long 0, .int 0, .int 0, .int 0, .int 0, .int 0, .int 0, .long 0, .int 0, .int 0, .ref mI, .ref mJ, .ref mS, .ref mD, .int 0, .int 0, .int 0, .long 0, .ref mX, .int 4, .int 0, .int 0, .ref mA, .ref mB, .ref mW, .ref mL, .int 0])), (mX, .inl (cB, 2000, .inl (upd (upd (upd (upd (fun _ => 0) (0 : Int32).toNatClampNeg (vp_nar .byte (v >>> ((0 : Int32).toInt64 &&& 63)).toInt32.toInt8.toInt32)) (1 : Int32).toNatClampNeg (vp_nar .byte (v >>> ((8 : Int32).toInt64 &&& 63)).toInt32.toInt8.toInt32)) (2 : Int32).toNatClampNeg (vp_nar .byte (v >>> ((16 : Int32).toInt64 &&& 63)).toInt32.toInt8.toInt32)) (3 : Int32).toNatClampNeg (vp_nar .byte (v >>> ((24 : Int32).toInt64 &&& 63)).toInt32.toInt8.toInt32))))] H := hP
                have hD : va_D A [(m0, .inr (8, [.ref mH, .int 0, .long 0, .int 0, .long 0, .int 0, .int 0, .int 0, .int 0, .int 0, .int 0, .long 0, .int 0, .int 0, .ref mI, .ref mJ, .ref mS, .ref mD, .int 0, .int 0, .int 0, .long 0, .ref mX, .int 4, .int 0, .int 0, .ref mA, .ref mB, .ref mW, .ref mL, .int 0])), (mX, .inl (cB, 2000, .inl (upd (upd (upd (upd (fun _ => 0) (0 : Int32).toNatClampNeg (vp_nar .byte (v >>> ((0 : Int32).toInt64 &&& 63)).toInt32.toInt8.toInt32)) (1 : Int32).toNatClampNeg (vp_nar .byte (v >>> ((8 : Int32).toInt64 &&& 63)).toInt32.toInt8.toInt32)) (2 : Int32).toNatClampNeg (vp_nar .byte (v >>> ((16 : Int32).toInt64 &&& 63)).toInt32.toInt8.toInt32)) (3 : Int32).toNatClampNeg (vp_nar .byte (v >>> ((24 : Int32).toInt64 &&& 63)).toInt32.toInt8.toInt32))))] := hD
                refine lv_iinc (v := 4) (lv' := [(4, .int 4), (0, .ref m0), (1, .long v), (3, .int 6)]) hx hb dX8_feed_66 hl (k := 0) rfl (by decide) (by decide) rfl (fun ls hl => ?_)
                refine lv_goto (tgt := 32) hx hb dX8_feed_69 (by decide) ?_
                refine lv_iload hx hb dX8_feed_32 (lv_at hl 0 rfl) ?_
                refine lv_iload_n hx hb dX8_feed_34 rfl (lv_at hl 3 rfl) ?_
                refine lv_icmp_ge (tgt := 72) hx hb dX8_feed_35 (by decide) (fun c_35_94 => ?_) (fun c_35_94 => ?_)
                · exact absurd c_35_94 (by decide)
                · have t_35_94 := c_35_94
                  try simp only [kb_eq0, kb_ne0, lg_cmp_lt, lg_cmp_le, lg_cmp_gt, lg_cmp_ge, lg_cmp_eq] at t_35_94
                  try simp only [Int32.lt_iff_toInt_lt, Int32.le_iff_toInt_le, ← Int32.toInt_inj, Int64.lt_iff_toInt_lt, Int64.le_iff_toInt_le, ← Int64.toInt_inj, Int32.toInt_toInt64, Int32.reduceToInt, Int64.reduceToInt] at t_35_94
                  refine lv_aload_n hx hb dX8_feed_38 rfl (lv_at hl 1 rfl) ?_
                  refine va_get (D := D) (ci := 8) (v := .ref mX) (C := RX8) (T := TX8) (N := 31) hx hb hts iX8_feed_X8 hown hK hP 0 rfl rfl 22 (by decide) (hts (.fieldLink RX8 26 "TapeCalculatorModel" "text" "[B") (List.mem_of_getElem? (i := 3) rfl)) (fun _ h9 => h9) rfl dX8_feed_39 ?_
                  refine lv_aload_n hx hb dX8_feed_42 rfl (lv_at hl 1 rfl) ?_
                  refine va_get (D := D) (ci := 8) (v := .int 4) (C := RX8) (T := TX8) (N := 31) hx hb hts iX8_feed_X8 hown hK hP 0 rfl rfl 23 (by decide) (hts (.fieldLink RX8 243 "TapeCalculatorModel" "textSize" "I") (List.mem_of_getElem? (i := 2) rfl)) (fun _ h9 => h9) rfl dX8_feed_43 ?_
                  refine lv_lload_n hx hb dX8_feed_46 rfl (lv_at hl 2 rfl) ?_
                  refine lv_bipush (v := 8) hx hb dX8_feed_47 (by decide) ?_
                  refine lv_iload hx hb dX8_feed_49 (lv_at hl 0 rfl) ?_
                  refine lv_imul hx hb dX8_feed_51 ?_
                  refine lv_topi (fun x_96 ex_96 => ?_)
                  obtain rfl : x_96 = 32 := ex_96.trans (by decide)
                  refine lv_lshr hx hb dX8_feed_52 rfl ?_
                  refine lv_l2i hx hb dX8_feed_53 rfl ?_
                  refine lv_i2b hx hb dX8_feed_54 rfl ?_
                  refine va_bast hx hb hK hP hD hS 1 2 rfl rfl (vp_in_iff.mpr (by decide)) dX8_feed_55 (fun H locs hP hD hS => ?_)
                  have hP : va_P D vwCl [(m0, .inr (8, [.ref mH, .int 0, .long 0, .int 0, .long 0, .int 0, .int 0, .int 0, .int 0, .int 0, .int 0, .long 0, .int 0, .int 0, .ref mI, .ref mJ, .ref mS, .ref mD, .int 0, .int 0, .int 0, .long 0, .ref mX, .int 4, .int 0, .int 0, .ref mA, .ref mB, .ref mW, .ref mL, .int 0])), (mX, .inl (cB, 2000, .inl (upd (upd (upd (upd (upd (fun _ => 0) (0 : Int32).toNatClampNeg (vp_nar .byte (v >>> ((0 : Int32).toInt64 &&& 63)).toInt32.toInt8.toInt32)) (1 : Int32).toNatClampNeg (vp_nar .byte (v >>> ((8 : Int32).toInt64 &&& 63)).toInt32.toInt8.toInt32)) (2 : Int32).toNatClampNeg (vp_nar .byte (v >>> ((16 : Int32).toInt64 &&& 63)).toInt32.toInt8.toInt32)) (3 : Int32).toNatClampNeg (vp_nar .byte (v >>> ((24 : Int32).toInt64 &&& 63)).toInt32.toInt8.toInt32)) (4 : Int32).toNatClampNeg (vp_nar .byte (v >>> ((32 : Int32).toInt64 &&& 63)).toInt32.toInt8.toInt32))))] H := hP
                  have hD : va_D A [(m0, .inr (8, [.ref mH, .int 0, .long 0, .int 0, .long 0, .int 0, .int 0, .int 0, .int 0, .int 0, .int 0, .long 0, .int 0, .int 0, .ref mI, .ref mJ, .ref mS, .ref mD, .int 0, .int 0, .int 0, .long 0, .ref mX, .int 4, .int 0, .int 0, .ref mA, .ref mB, .ref mW, .ref mL, .int 0])), (mX, .inl (cB, 2000, .inl (upd (upd (upd (upd (upd (fun _ => 0) (0 : Int32).toNatClampNeg (vp_nar .byte (v >>> ((0 : Int32).toInt64 &&& 63)).toInt32.toInt8.toInt32)) (1 : Int32).toNatClampNeg (vp_nar .byte (v >>> ((8 : Int32).toInt64 &&& 63)).toInt32.toInt8.toInt32)) (2 : Int32).toNatClampNeg (vp_nar .byte (v >>> ((16 : Int32).toInt64 &&& 63)).toInt32.toInt8.toInt32)) (3 : Int32).toNatClampNeg (vp_nar .byte (v >>> ((24 : Int32).toInt64 &&& 63)).toInt32.toInt8.toInt32)) (4 : Int32).toNatClampNeg (vp_nar .byte (v >>> ((32 : Int32).toInt64 &&& 63)).toInt32.toInt8.toInt32))))] := hD
                  refine lv_aload_n hx hb dX8_feed_56 rfl (lv_at hl 1 rfl) ?_
                  refine lv_dup hx hb dX8_feed_57 rfl ?_
                  refine va_get (D := D) (ci := 8) (v := .int 4) (C := RX8) (T := TX8) (N := 31) hx hb hts iX8_feed_X8 hown hK hP 0 rfl rfl 23 (by decide) (hts (.fieldLink RX8 243 "TapeCalculatorModel" "textSize" "I") (List.mem_of_getElem? (i := 2) rfl)) (fun _ h9 => h9) rfl dX8_feed_58 ?_
                  refine lv_iconst (v := 1) hx hb dX8_feed_61 (by decide) ?_
                  refine lv_iadd hx hb dX8_feed_62 ?_
                  refine lv_topi (fun x_97 ex_97 => ?_)
                  obtain rfl : x_97 = 5 := ex_97.trans (by decide)
                  refine va_put (D := D) (ci := 8) (v := .int 5) (ty := .int) (C := RX8) (T := TX8) (N := 31) hx hb hts iX8_feed_X8 tyX8 tyX8_ok nmX8 hown hK hP hD hS 0 rfl rfl 23 (by decide) (hts (.fieldLink RX8 243 "TapeCalculatorModel" "textSize" "I") (List.mem_of_getElem? (i := 2) rfl)) (fun _ h9 => h9) rfl (by decide +kernel) rfl rfl (Nat.le_of_ble_eq_true rfl) dX8_feed_63 (fun H locs hP hD hS => ?_)
                  have hP : va_P D vwCl [(m0, .inr (8, [.ref mH, .int 0, .long 0, .int 0, .long 0, .int 0, .int 0, .int 0, .int 0, .int 0, .int 0, .long 0, .int 0, .int 0, .ref mI, .ref mJ, .ref mS, .ref mD, .int 0, .int 0, .int 0, .long 0, .ref mX, .int 5, .int 0, .int 0, .ref mA, .ref mB, .ref mW, .ref mL, .int 0])), (mX, .inl (cB, 2000, .inl (upd (upd (upd (upd (upd (fun _ => 0) (0 : Int32).toNatClampNeg (vp_nar .byte (v >>> ((0 : Int32).toInt64 &&& 63)).toInt32.toInt8.toInt32)) (1 : Int32).toNatClampNeg (vp_nar .byte (v >>> ((8 : Int32).toInt64 &&& 63)).toInt32.toInt8.toInt32)) (2 : Int32).toNatClampNeg (vp_nar .byte (v >>> ((16 : Int32).toInt64 &&& 63)).toInt32.toInt8.toInt32)) (3 : Int32).toNatClampNeg (vp_nar .byte (v >>> ((24 : Int32).toInt64 &&& 63)).toInt32.toInt8.toInt32)) (4 : Int32).toNatClampNeg (vp_nar .byte (v >>> ((32 : Int32).toInt64 &&& 63)).toInt32.toInt8.toInt32))))] H := hP
                  have hD : va_D A [(m0, .inr (8, [.ref mH, .int 0, .long 0, .int 0, .long 0, .int 0, .int 0, .int 0, .int 0, .int 0, .int 0, .long 0, .int 0, .int 0, .ref mI, .ref mJ, .ref mS, .ref mD, .int 0, .int 0, .int 0, .long 0, .ref mX, .int 5, .int 0, .int 0, .ref mA, .ref mB, .ref mW, .ref mL, .int 0])), (mX, .inl (cB, 2000, .inl (upd (upd (upd (upd (upd (fun _ => 0) (0 : Int32).toNatClampNeg (vp_nar .byte (v >>> ((0 : Int32).toInt64 &&& 63)).toInt32.toInt8.toInt32)) (1 : Int32).toNatClampNeg (vp_nar .byte (v >>> ((8 : Int32).toInt64 &&& 63)).toInt32.toInt8.toInt32)) (2 : Int32).toNatClampNeg (vp_nar .byte (v >>> ((16 : Int32).toInt64 &&& 63)).toInt32.toInt8.toInt32)) (3 : Int32).toNatClampNeg (vp_nar .byte (v >>> ((24 : Int32).toInt64 &&& 63)).toInt32.toInt8.toInt32)) (4 : Int32).toNatClampNeg (vp_nar .byte (v >>> ((32 : Int32).toInt64 &&& 63)).toInt32.toInt8.toInt32))))] := hD
                  refine lv_iinc (v := 5) (lv' := [(4, .int 5), (0, .ref m0), (1, .long v), (3, .int 6)]) hx hb dX8_feed_66 hl (k := 0) rfl (by decide) (by decide) rfl (fun ls hl => ?_)
                  refine lv_goto (tgt := 32) hx hb dX8_feed_69 (by decide) ?_
                  refine lv_iload hx hb dX8_feed_32 (lv_at hl 0 rfl) ?_
                  refine lv_iload_n hx hb dX8_feed_34 rfl (lv_at hl 3 rfl) ?_
                  refine lv_icmp_ge (tgt := 72) hx hb dX8_feed_35 (by decide) (fun c_35_97 => ?_) (fun c_35_97 => ?_)
                  · exact absurd c_35_97 (by decide)
                  · have t_35_97 := c_35_97
                    try simp only [kb_eq0, kb_ne0, lg_cmp_lt, lg_cmp_le, lg_cmp_gt, lg_cmp_ge, lg_cmp_eq] at t_35_97
                    try simp only [Int32.lt_iff_toInt_lt, Int32.le_iff_toInt_le, ← Int32.toInt_inj, Int64.lt_iff_toInt_lt, Int64.le_iff_toInt_le, ← Int64.toInt_inj, Int32.toInt_toInt64, Int32.reduceToInt, Int64.reduceToInt] at t_35_97
                    refine lv_aload_n hx hb dX8_feed_38 rfl (lv_at hl 1 rfl) ?_
                    refine va_get (D := D) (ci := 8) (v := .ref mX) (C := RX8) (T := TX8) (N := 31) hx hb hts iX8_feed_X8 hown hK hP 0 rfl rfl 22 (by decide) (hts (.fieldLink RX8 26 "TapeCalculatorModel" "text" "[B") (List.mem_of_getElem? (i := 3) rfl)) (fun _ h9 => h9) rfl dX8_feed_39 ?_
                    refine lv_aload_n hx hb dX8_feed_42 rfl (lv_at hl 1 rfl) ?_
                    refine va_get (D := D) (ci := 8) (v := .int 5) (C := RX8) (T := TX8) (N := 31) hx hb hts iX8_feed_X8 hown hK hP 0 rfl rfl 23 (by decide) (hts (.fieldLink RX8 243 "TapeCalculatorModel" "textSize" "I") (List.mem_of_getElem? (i := 2) rfl)) (fun _ h9 => h9) rfl dX8_feed_43 ?_
                    refine lv_lload_n hx hb dX8_feed_46 rfl (lv_at hl 2 rfl) ?_
                    refine lv_bipush (v := 8) hx hb dX8_feed_47 (by decide) ?_
                    refine lv_iload hx hb dX8_feed_49 (lv_at hl 0 rfl) ?_
                    refine lv_imul hx hb dX8_feed_51 ?_
                    refine lv_topi (fun x_99 ex_99 => ?_)
                    obtain rfl : x_99 = 40 := ex_99.trans (by decide)
                    refine lv_lshr hx hb dX8_feed_52 rfl ?_
                    refine lv_l2i hx hb dX8_feed_53 rfl ?_
                    refine lv_i2b hx hb dX8_feed_54 rfl ?_
                    refine va_bast hx hb hK hP hD hS 1 2 rfl rfl (vp_in_iff.mpr (by decide)) dX8_feed_55 (fun H locs hP hD hS => ?_)
                    have hP : va_P D vwCl [(m0, .inr (8, [.ref mH, .int 0, .long 0, .int 0, .long 0, .int 0, .int 0, .int 0, .int 0, .int 0, .int 0, .long 0, .int 0, .int 0, .ref mI, .ref mJ, .ref mS, .ref mD, .int 0, .int 0, .int 0, .long 0, .ref mX, .int 5, .int 0, .int 0, .ref mA, .ref mB, .ref mW, .ref mL, .int 0])), (mX, .inl (cB, 2000, .inl (upd (upd (upd (upd (upd (upd (fun _ => 0) (0 : Int32).toNatClampNeg (vp_nar .byte (v >>> ((0 : Int32).toInt64 &&& 63)).toInt32.toInt8.toInt32)) (1 : Int32).toNatClampNeg (vp_nar .byte (v >>> ((8 : Int32).toInt64 &&& 63)).toInt32.toInt8.toInt32)) (2 : Int32).toNatClampNeg (vp_nar .byte (v >>> ((16 : Int32).toInt64 &&& 63)).toInt32.toInt8.toInt32)) (3 : Int32).toNatClampNeg (vp_nar .byte (v >>> ((24 : Int32).toInt64 &&& 63)).toInt32.toInt8.toInt32)) (4 : Int32).toNatClampNeg (vp_nar .byte (v >>> ((32 : Int32).toInt64 &&& 63)).toInt32.toInt8.toInt32)) (5 : Int32).toNatClampNeg (vp_nar .byte (v >>> ((40 : Int32).toInt64 &&& 63)).toInt32.toInt8.toInt32))))] H := hP
                    have hD : va_D A [(m0, .inr (8, [.ref mH, .int 0, .long 0, .int 0, .long 0, .int 0, .int 0, .int 0, .int 0, .int 0, .int 0, .long 0, .int 0, .int 0, .ref mI, .ref mJ, .ref mS, .ref mD, .int 0, .int 0, .int 0, .long 0, .ref mX, .int 5, .int 0, .int 0, .ref mA, .ref mB, .ref mW, .ref mL, .int 0])), (mX, .inl (cB, 2000, .inl (upd (upd (upd (upd (upd (upd (fun _ => 0) (0 : Int32).toNatClampNeg (vp_nar .byte (v >>> ((0 : Int32).toInt64 &&& 63)).toInt32.toInt8.toInt32)) (1 : Int32).toNatClampNeg (vp_nar .byte (v >>> ((8 : Int32).toInt64 &&& 63)).toInt32.toInt8.toInt32)) (2 : Int32).toNatClampNeg (vp_nar .byte (v >>> ((16 : Int32).toInt64 &&& 63)).toInt32.toInt8.toInt32)) (3 : Int32).toNatClampNeg (vp_nar .byte (v >>> ((24 : Int32).toInt64 &&& 63)).toInt32.toInt8.toInt32)) (4 : Int32).toNatClampNeg (vp_nar .byte (v >>> ((32 : Int32).toInt64 &&& 63)).toInt32.toInt8.toInt32)) (5 : Int32).toNatClampNeg (vp_nar .byte (v >>> ((40 : Int32).toInt64 &&& 63)).toInt32.toInt8.toInt32))))] := hD
                    refine lv_aload_n hx hb dX8_feed_56 rfl (lv_at hl 1 rfl) ?_
                    refine lv_dup hx hb dX8_feed_57 rfl ?_
                    refine va_get (D := D) (ci := 8) (v := .int 5) (C := RX8) (T := TX8) (N := 31) hx hb hts iX8_feed_X8 hown hK hP 0 rfl rfl 23 (by decide) (hts (.fieldLink RX8 243 "TapeCalculatorModel" "textSize" "I") (List.mem_of_getElem? (i := 2) rfl)) (fun _ h9 => h9) rfl dX8_feed_58 ?_
                    refine lv_iconst (v := 1) hx hb dX8_feed_61 (by decide) ?_
                    refine lv_iadd hx hb dX8_feed_62 ?_
                    refine lv_topi (fun x_100 ex_100 => ?_)
                    obtain rfl : x_100 = 6 := ex_100.trans (by decide)
                    refine va_put (D := D) (ci := 8) (v := .int 6) (ty := .int) (C := RX8) (T := TX8) (N := 31) hx hb hts iX8_feed_X8 tyX8 tyX8_ok nmX8 hown hK hP hD hS 0 rfl rfl 23 (by decide) (hts (.fieldLink RX8 243 "TapeCalculatorModel" "textSize" "I") (List.mem_of_getElem? (i := 2) rfl)) (fun _ h9 => h9) rfl (by decide +kernel) rfl rfl (Nat.le_of_ble_eq_true rfl) dX8_feed_63 (fun H locs hP hD hS => ?_)
                    have hP : va_P D vwCl [(m0, .inr (8, [.ref mH, .int 0, .long 0, .int 0, .long 0, .int 0, .int 0, .int 0, .int 0, .int 0, .int 0, .long 0, .int 0, .int 0, .ref mI, .ref mJ, .ref mS, .ref mD, .int 0, .int 0, .int 0, .long 0, .ref mX, .int 6, .int 0, .int 0, .ref mA, .ref mB, .ref mW, .ref mL, .int 0])), (mX, .inl (cB, 2000, .inl (upd (upd (upd (upd (upd (upd (fun _ => 0) (0 : Int32).toNatClampNeg (vp_nar .byte (v >>> ((0 : Int32).toInt64 &&& 63)).toInt32.toInt8.toInt32)) (1 : Int32).toNatClampNeg (vp_nar .byte (v >>> ((8 : Int32).toInt64 &&& 63)).toInt32.toInt8.toInt32)) (2 : Int32).toNatClampNeg (vp_nar .byte (v >>> ((16 : Int32).toInt64 &&& 63)).toInt32.toInt8.toInt32)) (3 : Int32).toNatClampNeg (vp_nar .byte (v >>> ((24 : Int32).toInt64 &&& 63)).toInt32.toInt8.toInt32)) (4 : Int32).toNatClampNeg (vp_nar .byte (v >>> ((32 : Int32).toInt64 &&& 63)).toInt32.toInt8.toInt32)) (5 : Int32).toNatClampNeg (vp_nar .byte (v >>> ((40 : Int32).toInt64 &&& 63)).toInt32.toInt8.toInt32))))] H := hP
                    have hD : va_D A [(m0, .inr (8, [.ref mH, .int 0, .long 0, .int 0, .long 0, .int 0, .int 0, .int 0, .int 0, .int 0, .int 0, .long 0, .int 0, .int 0, .ref mI, .ref mJ, .ref mS, .ref mD, .int 0, .int 0, .int 0, .long 0, .ref mX, .int 6, .int 0, .int 0, .ref mA, .ref mB, .ref mW, .ref mL, .int 0])), (mX, .inl (cB, 2000, .inl (upd (upd (upd (upd (upd (upd (fun _ => 0) (0 : Int32).toNatClampNeg (vp_nar .byte (v >>> ((0 : Int32).toInt64 &&& 63)).toInt32.toInt8.toInt32)) (1 : Int32).toNatClampNeg (vp_nar .byte (v >>> ((8 : Int32).toInt64 &&& 63)).toInt32.toInt8.toInt32)) (2 : Int32).toNatClampNeg (vp_nar .byte (v >>> ((16 : Int32).toInt64 &&& 63)).toInt32.toInt8.toInt32)) (3 : Int32).toNatClampNeg (vp_nar .byte (v >>> ((24 : Int32).toInt64 &&& 63)).toInt32.toInt8.toInt32)) (4 : Int32).toNatClampNeg (vp_nar .byte (v >>> ((32 : Int32).toInt64 &&& 63)).toInt32.toInt8.toInt32)) (5 : Int32).toNatClampNeg (vp_nar .byte (v >>> ((40 : Int32).toInt64 &&& 63)).toInt32.toInt8.toInt32))))] := hD
                    refine lv_iinc (v := 6) (lv' := [(4, .int 6), (0, .ref m0), (1, .long v), (3, .int 6)]) hx hb dX8_feed_66 hl (k := 0) rfl (by decide) (by decide) rfl (fun ls hl => ?_)
                    refine lv_goto (tgt := 32) hx hb dX8_feed_69 (by decide) ?_
                    refine lv_iload hx hb dX8_feed_32 (lv_at hl 0 rfl) ?_
                    refine lv_iload_n hx hb dX8_feed_34 rfl (lv_at hl 3 rfl) ?_
                    refine lv_icmp_ge (tgt := 72) hx hb dX8_feed_35 (by decide) (fun c_35_100 => ?_) (fun c_35_100 => ?_)
                    · have t_35_100 := c_35_100
                      try simp only [kb_eq0, kb_ne0, lg_cmp_lt, lg_cmp_le, lg_cmp_gt, lg_cmp_ge, lg_cmp_eq] at t_35_100
                      try simp only [Int32.lt_iff_toInt_lt, Int32.le_iff_toInt_le, ← Int32.toInt_inj, Int64.lt_iff_toInt_lt, Int64.le_iff_toInt_le, ← Int64.toInt_inj, Int32.toInt_toInt64, Int32.reduceToInt, Int64.reduceToInt] at t_35_100
                      refine lv_aload_n hx hb dX8_feed_72 rfl (lv_at hl 1 rfl) ?_
                      refine va_get (D := D) (ci := 8) (v := .int 6) (C := RX8) (T := TX8) (N := 31) hx hb hts iX8_feed_X8 hown hK hP 0 rfl rfl 23 (by decide) (hts (.fieldLink RX8 243 "TapeCalculatorModel" "textSize" "I") (List.mem_of_getElem? (i := 2) rfl)) (fun _ h9 => h9) rfl dX8_feed_73 ?_
                      refine kIret (u := (6, (upd (upd (upd (upd (upd (upd (fun _ => 0) (0 : Int32).toNatClampNeg (vp_nar .byte (v >>> ((0 : Int32).toInt64 &&& 63)).toInt32.toInt8.toInt32)) (1 : Int32).toNatClampNeg (vp_nar .byte (v >>> ((8 : Int32).toInt64 &&& 63)).toInt32.toInt8.toInt32)) (2 : Int32).toNatClampNeg (vp_nar .byte (v >>> ((16 : Int32).toInt64 &&& 63)).toInt32.toInt8.toInt32)) (3 : Int32).toNatClampNeg (vp_nar .byte (v >>> ((24 : Int32).toInt64 &&& 63)).toInt32.toInt8.toInt32)) (4 : Int32).toNatClampNeg (vp_nar .byte (v >>> ((32 : Int32).toInt64 &&& 63)).toInt32.toInt8.toInt32)) (5 : Int32).toNatClampNeg (vp_nar .byte (v >>> ((40 : Int32).toInt64 &&& 63)).toInt32.toInt8.toInt32)))) hx hb hr rfl hlocks hS dX8_feed_76 ?_ (hP.sub [0, 1] rfl) (hD.sub [0, 1] (by decide) rfl)
                      first
                        | exact (kif_t (by decide)).symm
                        | exact (kif_t (by omega)).symm
                        | exact (kif_f (by omega)).symm
                    · exact absurd (by decide) c_35_100
      · exact absurd (by decide) c_23_81
    · have t_9_79 := c_9_79
      try simp only [kb_eq0, kb_ne0, lg_cmp_lt, lg_cmp_le, lg_cmp_gt, lg_cmp_ge, lg_cmp_eq] at t_9_79
      try simp only [Int32.lt_iff_toInt_lt, Int32.le_iff_toInt_le, ← Int32.toInt_inj, Int64.lt_iff_toInt_lt, Int64.le_iff_toInt_le, ← Int64.toInt_inj, Int32.toInt_toInt64, Int32.reduceToInt, Int64.reduceToInt] at t_9_79
      omega
  · refine lv_iload_n hx hb dX8_feed_0 rfl (lv_at hl 2 rfl) ?_
    refine lv_i2l hx hb dX8_feed_1 rfl ?_
    refine lv_topl (fun x_102 ex_102 => ?_)
    obtain rfl : x_102 = 7 := ex_102.trans (by decide)
    refine lv_lconst (v := 1) hx hb dX8_feed_2 (by decide) ?_
    refine lv_ldc2 (v := 8) hx hb hown (hts (.constantLong RX8 241 (8)) (List.mem_of_getElem? (i := 1) rfl)) dX8_feed_3 ?_
    refine kCallI (wr := [(m0, .inr (8, [.ref mH, .int 0, .long 0, .int 0, .long 0, .int 0, .int 0, .int 0, .int 0, .int 0, .int 0, .long 0, .int 0, .int 0, .ref mI, .ref mJ, .ref mS, .ref mD, .int 0, .int 0, .int 0, .long 0, .ref mX, .int 0, .int 0, .int 0, .ref mA, .ref mB, .ref mW, .ref mL, .int 0])), (mX, .inl (cB, 2000, .inl (fun _ => 0)))]) (va_runS (As := [.long 7, .long 1, .long 8]) (rest := []) ⟨hx, hb, hml, hown, hts⟩ (r_in l D cI cL cB cZ cT _ 7 1 8) (va_cwS 3 hts gX8_feed_X8_in rfl rfl rfl (by decide +kernel) ⟨Nat.le_of_ble_eq_true rfl, Nat.le_of_ble_eq_true rfl⟩) (kPreS hG hP hD [] rfl (by decide)) rfl rfl hl.1 rfl (lv_room (Nat.le_of_ble_eq_true rfl)) dX8_feed_6 ⟨Nat.le_of_ble_eq_true rfl, Nat.le_of_ble_eq_true rfl⟩) hA hP hD hS [] [0, 1] rfl rfl (by decide) (by decide) (fun r_103 u_r_103 H locs wr_103 hP hD hS => ?_)
    have hP : va_P D vwCl [(m0, .inr (8, [.ref mH, .int 0, .long 0, .int 0, .long 0, .int 0, .int 0, .int 0, .int 0, .int 0, .int 0, .long 0, .int 0, .int 0, .ref mI, .ref mJ, .ref mS, .ref mD, .int 0, .int 0, .int 0, .long 0, .ref mX, .int 0, .int 0, .int 0, .ref mA, .ref mB, .ref mW, .ref mL, .int 0])), (mX, .inl (cB, 2000, .inl (fun _ => 0)))] H := hP
    have hD : va_D A [(m0, .inr (8, [.ref mH, .int 0, .long 0, .int 0, .long 0, .int 0, .int 0, .int 0, .int 0, .int 0, .int 0, .long 0, .int 0, .int 0, .ref mI, .ref mJ, .ref mS, .ref mD, .int 0, .int 0, .int 0, .long 0, .ref mX, .int 0, .int 0, .int 0, .ref mA, .ref mB, .ref mW, .ref mL, .int 0])), (mX, .inl (cB, 2000, .inl (fun _ => 0)))] := hD
    try dsimp only at wr_103
    subst wr_103
    refine lv_if_ne (tgt := 14) hx hb dX8_feed_9 (by decide) (fun c_9_103 => ?_) (fun c_9_103 => ?_)
    · have t_9_103 := c_9_103
      try simp only [kb_eq0, kb_ne0, lg_cmp_lt, lg_cmp_le, lg_cmp_gt, lg_cmp_ge, lg_cmp_eq] at t_9_103
      try simp only [Int32.lt_iff_toInt_lt, Int32.le_iff_toInt_le, ← Int32.toInt_inj, Int64.lt_iff_toInt_lt, Int64.le_iff_toInt_le, ← Int64.toInt_inj, Int32.toInt_toInt64, Int32.reduceToInt, Int64.reduceToInt] at t_9_103
      refine lv_aload_n hx hb dX8_feed_14 rfl (lv_at hl 0 rfl) ?_
      refine va_get (D := D) (ci := 8) (v := .int 0) (C := RX8) (T := TX8) (N := 31) hx hb hts iX8_feed_X8 hown hK hP 0 rfl rfl 23 (by decide) (hts (.fieldLink RX8 243 "TapeCalculatorModel" "textSize" "I") (List.mem_of_getElem? (i := 2) rfl)) (fun _ h9 => h9) rfl dX8_feed_15 ?_
      refine lv_iload_n hx hb dX8_feed_18 rfl (lv_at hl 2 rfl) ?_
      refine lv_iadd hx hb dX8_feed_19 ?_
      refine lv_topi (fun x_105 ex_105 => ?_)
      obtain rfl : x_105 = 7 := ex_105.trans (by decide)
      refine lv_sipush (v := 2000) hx hb dX8_feed_20 (by decide) ?_
      refine lv_icmp_le (tgt := 29) hx hb dX8_feed_23 (by decide) (fun c_23_105 => ?_) (fun c_23_105 => ?_)
      · have t_23_105 := c_23_105
        try simp only [kb_eq0, kb_ne0, lg_cmp_lt, lg_cmp_le, lg_cmp_gt, lg_cmp_ge, lg_cmp_eq] at t_23_105
        try simp only [Int32.lt_iff_toInt_lt, Int32.le_iff_toInt_le, ← Int32.toInt_inj, Int64.lt_iff_toInt_lt, Int64.le_iff_toInt_le, ← Int64.toInt_inj, Int32.toInt_toInt64, Int32.reduceToInt, Int64.reduceToInt] at t_23_105
        refine lv_iconst (v := 0) hx hb dX8_feed_29 (by decide) ?_
        refine lv_istore (lv' := [(4, .int 0), (0, .ref m0), (1, .long v), (3, .int 7)]) hx hb dX8_feed_30 hl (by decide) rfl (fun ls hl => ?_)
        refine lv_iload hx hb dX8_feed_32 (lv_at hl 0 rfl) ?_
        refine lv_iload_n hx hb dX8_feed_34 rfl (lv_at hl 3 rfl) ?_
        refine lv_icmp_ge (tgt := 72) hx hb dX8_feed_35 (by decide) (fun c_35_106 => ?_) (fun c_35_106 => ?_)
        · exact absurd c_35_106 (by decide)
        · have t_35_106 := c_35_106
          try simp only [kb_eq0, kb_ne0, lg_cmp_lt, lg_cmp_le, lg_cmp_gt, lg_cmp_ge, lg_cmp_eq] at t_35_106
          try simp only [Int32.lt_iff_toInt_lt, Int32.le_iff_toInt_le, ← Int32.toInt_inj, Int64.lt_iff_toInt_lt, Int64.le_iff_toInt_le, ← Int64.toInt_inj, Int32.toInt_toInt64, Int32.reduceToInt, Int64.reduceToInt] at t_35_106
          refine lv_aload_n hx hb dX8_feed_38 rfl (lv_at hl 1 rfl) ?_
          refine va_get (D := D) (ci := 8) (v := .ref mX) (C := RX8) (T := TX8) (N := 31) hx hb hts iX8_feed_X8 hown hK hP 0 rfl rfl 22 (by decide) (hts (.fieldLink RX8 26 "TapeCalculatorModel" "text" "[B") (List.mem_of_getElem? (i := 3) rfl)) (fun _ h9 => h9) rfl dX8_feed_39 ?_
          refine lv_aload_n hx hb dX8_feed_42 rfl (lv_at hl 1 rfl) ?_
          refine va_get (D := D) (ci := 8) (v := .int 0) (C := RX8) (T := TX8) (N := 31) hx hb hts iX8_feed_X8 hown hK hP 0 rfl rfl 23 (by decide) (hts (.fieldLink RX8 243 "TapeCalculatorModel" "textSize" "I") (List.mem_of_getElem? (i := 2) rfl)) (fun _ h9 => h9) rfl dX8_feed_43 ?_
          refine lv_lload_n hx hb dX8_feed_46 rfl (lv_at hl 2 rfl) ?_
          refine lv_bipush (v := 8) hx hb dX8_feed_47 (by decide) ?_
          refine lv_iload hx hb dX8_feed_49 (lv_at hl 0 rfl) ?_
          refine lv_imul hx hb dX8_feed_51 ?_
          refine lv_topi (fun x_108 ex_108 => ?_)
          obtain rfl : x_108 = 0 := ex_108.trans (by decide)
          refine lv_lshr hx hb dX8_feed_52 rfl ?_
          refine lv_l2i hx hb dX8_feed_53 rfl ?_
          refine lv_i2b hx hb dX8_feed_54 rfl ?_
          refine va_bast hx hb hK hP hD hS 1 2 rfl rfl (vp_in_iff.mpr (by decide)) dX8_feed_55 (fun H locs hP hD hS => ?_)
          have hP : va_P D vwCl [(m0, .inr (8, [.ref mH, .int 0, .long 0, .int 0, .long 0, .int 0, .int 0, .int 0, .int 0, .int 0, .int 0, .long 0, .int 0, .int 0, .ref mI, .ref mJ, .ref mS, .ref mD, .int 0, .int 0, .int 0, .long 0, .ref mX, .int 0, .int 0, .int 0, .ref mA, .ref mB, .ref mW, .ref mL, .int 0])), (mX, .inl (cB, 2000, .inl (upd (fun _ => 0) (0 : Int32).toNatClampNeg (vp_nar .byte (v >>> ((0 : Int32).toInt64 &&& 63)).toInt32.toInt8.toInt32))))] H := hP
          have hD : va_D A [(m0, .inr (8, [.ref mH, .int 0, .long 0, .int 0, .long 0, .int 0, .int 0, .int 0, .int 0, .int 0, .int 0, .long 0, .int 0, .int 0, .ref mI, .ref mJ, .ref mS, .ref mD, .int 0, .int 0, .int 0, .long 0, .ref mX, .int 0, .int 0, .int 0, .ref mA, .ref mB, .ref mW, .ref mL, .int 0])), (mX, .inl (cB, 2000, .inl (upd (fun _ => 0) (0 : Int32).toNatClampNeg (vp_nar .byte (v >>> ((0 : Int32).toInt64 &&& 63)).toInt32.toInt8.toInt32))))] := hD
          refine lv_aload_n hx hb dX8_feed_56 rfl (lv_at hl 1 rfl) ?_
          refine lv_dup hx hb dX8_feed_57 rfl ?_
          refine va_get (D := D) (ci := 8) (v := .int 0) (C := RX8) (T := TX8) (N := 31) hx hb hts iX8_feed_X8 hown hK hP 0 rfl rfl 23 (by decide) (hts (.fieldLink RX8 243 "TapeCalculatorModel" "textSize" "I") (List.mem_of_getElem? (i := 2) rfl)) (fun _ h9 => h9) rfl dX8_feed_58 ?_
          refine lv_iconst (v := 1) hx hb dX8_feed_61 (by decide) ?_
          refine lv_iadd hx hb dX8_feed_62 ?_
          refine lv_topi (fun x_109 ex_109 => ?_)
          obtain rfl : x_109 = 1 := ex_109.trans (by decide)
          refine va_put (D := D) (ci := 8) (v := .int 1) (ty := .int) (C := RX8) (T := TX8) (N := 31) hx hb hts iX8_feed_X8 tyX8 tyX8_ok nmX8 hown hK hP hD hS 0 rfl rfl 23 (by decide) (hts (.fieldLink RX8 243 "TapeCalculatorModel" "textSize" "I") (List.mem_of_getElem? (i := 2) rfl)) (fun _ h9 => h9) rfl (by decide +kernel) rfl rfl (Nat.le_of_ble_eq_true rfl) dX8_feed_63 (fun H locs hP hD hS => ?_)
          have hP : va_P D vwCl [(m0, .inr (8, [.ref mH, .int 0, .long 0, .int 0, .long 0, .int 0, .int 0, .int 0, .int 0, .int 0, .int 0, .long 0, .int 0, .int 0, .ref mI, .ref mJ, .ref mS, .ref mD, .int 0, .int 0, .int 0, .long 0, .ref mX, .int 1, .int 0, .int 0, .ref mA, .ref mB, .ref mW, .ref mL, .int 0])), (mX, .inl (cB, 2000, .inl (upd (fun _ => 0) (0 : Int32).toNatClampNeg (vp_nar .byte (v >>> ((0 : Int32).toInt64 &&& 63)).toInt32.toInt8.toInt32))))] H := hP
          have hD : va_D A [(m0, .inr (8, [.ref mH, .int 0, .long 0, .int 0, .long 0, .int 0, .int 0, .int 0, .int 0, .int 0, .int 0, .long 0, .int 0, .int 0, .ref mI, .ref mJ, .ref mS, .ref mD, .int 0, .int 0, .int 0, .long 0, .ref mX, .int 1, .int 0, .int 0, .ref mA, .ref mB, .ref mW, .ref mL, .int 0])), (mX, .inl (cB, 2000, .inl (upd (fun _ => 0) (0 : Int32).toNatClampNeg (vp_nar .byte (v >>> ((0 : Int32).toInt64 &&& 63)).toInt32.toInt8.toInt32))))] := hD
          refine lv_iinc (v := 1) (lv' := [(4, .int 1), (0, .ref m0), (1, .long v), (3, .int 7)]) hx hb dX8_feed_66 hl (k := 0) rfl (by decide) (by decide) rfl (fun ls hl => ?_)
          refine lv_goto (tgt := 32) hx hb dX8_feed_69 (by decide) ?_
          refine lv_iload hx hb dX8_feed_32 (lv_at hl 0 rfl) ?_
          refine lv_iload_n hx hb dX8_feed_34 rfl (lv_at hl 3 rfl) ?_
          refine lv_icmp_ge (tgt := 72) hx hb dX8_feed_35 (by decide) (fun c_35_109 => ?_) (fun c_35_109 => ?_)
          · exact absurd c_35_109 (by decide)
          · have t_35_109 := c_35_109
            try simp only [kb_eq0, kb_ne0, lg_cmp_lt, lg_cmp_le, lg_cmp_gt, lg_cmp_ge, lg_cmp_eq] at t_35_109
            try simp only [Int32.lt_iff_toInt_lt, Int32.le_iff_toInt_le, ← Int32.toInt_inj, Int64.lt_iff_toInt_lt, Int64.le_iff_toInt_le, ← Int64.toInt_inj, Int32.toInt_toInt64, Int32.reduceToInt, Int64.reduceToInt] at t_35_109
            refine lv_aload_n hx hb dX8_feed_38 rfl (lv_at hl 1 rfl) ?_
            refine va_get (D := D) (ci := 8) (v := .ref mX) (C := RX8) (T := TX8) (N := 31) hx hb hts iX8_feed_X8 hown hK hP 0 rfl rfl 22 (by decide) (hts (.fieldLink RX8 26 "TapeCalculatorModel" "text" "[B") (List.mem_of_getElem? (i := 3) rfl)) (fun _ h9 => h9) rfl dX8_feed_39 ?_
            refine lv_aload_n hx hb dX8_feed_42 rfl (lv_at hl 1 rfl) ?_
            refine va_get (D := D) (ci := 8) (v := .int 1) (C := RX8) (T := TX8) (N := 31) hx hb hts iX8_feed_X8 hown hK hP 0 rfl rfl 23 (by decide) (hts (.fieldLink RX8 243 "TapeCalculatorModel" "textSize" "I") (List.mem_of_getElem? (i := 2) rfl)) (fun _ h9 => h9) rfl dX8_feed_43 ?_
            refine lv_lload_n hx hb dX8_feed_46 rfl (lv_at hl 2 rfl) ?_
            refine lv_bipush (v := 8) hx hb dX8_feed_47 (by decide) ?_
            refine lv_iload hx hb dX8_feed_49 (lv_at hl 0 rfl) ?_
            refine lv_imul hx hb dX8_feed_51 ?_
            refine lv_topi (fun x_111 ex_111 => ?_)
            obtain rfl : x_111 = 8 := ex_111.trans (by decide)
            refine lv_lshr hx hb dX8_feed_52 rfl ?_
            refine lv_l2i hx hb dX8_feed_53 rfl ?_
            refine lv_i2b hx hb dX8_feed_54 rfl ?_
            refine va_bast hx hb hK hP hD hS 1 2 rfl rfl (vp_in_iff.mpr (by decide)) dX8_feed_55 (fun H locs hP hD hS => ?_)
            have hP : va_P D vwCl [(m0, .inr (8, [.ref mH, .int 0, .long 0, .int 0, .long 0, .int 0, .int 0, .int 0, .int 0, .int 0, .int 0, .long 0, .int 0, .int 0, .ref mI, .ref mJ, .ref mS, .ref mD, .int 0, .int 0, .int 0, .long 0, .ref mX, .int 1, .int 0, .int 0, .ref mA, .ref mB, .ref mW, .ref mL, .int 0])), (mX, .inl (cB, 2000, .inl (upd (upd (fun _ => 0) (0 : Int32).toNatClampNeg (vp_nar .byte (v >>> ((0 : Int32).toInt64 &&& 63)).toInt32.toInt8.toInt32)) (1 : Int32).toNatClampNeg (vp_nar .byte (v >>> ((8 : Int32).toInt64 &&& 63)).toInt32.toInt8.toInt32))))] H := hP
            have hD : va_D A [(m0, .inr (8, [.ref mH, .int 0, .long 0, .int 0, .long 0, .int 0, .int 0, .int 0, .int 0, .int 0, .int 0, .long 0, .int 0, .int 0, .ref mI, .ref mJ, .ref mS, .ref mD, .int 0, .int 0, .int 0, .long 0, .ref mX, .int 1, .int 0, .int 0, .ref mA, .ref mB, .ref mW, .ref mL, .int 0])), (mX, .inl (cB, 2000, .inl (upd (upd (fun _ => 0) (0 : Int32).toNatClampNeg (vp_nar .byte (v >>> ((0 : Int32).toInt64 &&& 63)).toInt32.toInt8.toInt32)) (1 : Int32).toNatClampNeg (vp_nar .byte (v >>> ((8 : Int32).toInt64 &&& 63)).toInt32.toInt8.toInt32))))] := hD
            refine lv_aload_n hx hb dX8_feed_56 rfl (lv_at hl 1 rfl) ?_
            refine lv_dup hx hb dX8_feed_57 rfl ?_
            refine va_get (D := D) (ci := 8) (v := .int 1) (C := RX8) (T := TX8) (N := 31) hx hb hts iX8_feed_X8 hown hK hP 0 rfl rfl 23 (by decide) (hts (.fieldLink RX8 243 "TapeCalculatorModel" "textSize" "I") (List.mem_of_getElem? (i := 2) rfl)) (fun _ h9 => h9) rfl dX8_feed_58 ?_
            refine lv_iconst (v := 1) hx hb dX8_feed_61 (by decide) ?_
            refine lv_iadd hx hb dX8_feed_62 ?_
            refine lv_topi (fun x_112 ex_112 => ?_)
            obtain rfl : x_112 = 2 := ex_112.trans (by decide)
            refine va_put (D := D) (ci := 8) (v := .int 2) (ty := .int) (C := RX8) (T := TX8) (N := 31) hx hb hts iX8_feed_X8 tyX8 tyX8_ok nmX8 hown hK hP hD hS 0 rfl rfl 23 (by decide) (hts (.fieldLink RX8 243 "TapeCalculatorModel" "textSize" "I") (List.mem_of_getElem? (i := 2) rfl)) (fun _ h9 => h9) rfl (by decide +kernel) rfl rfl (Nat.le_of_ble_eq_true rfl) dX8_feed_63 (fun H locs hP hD hS => ?_)
            have hP : va_P D vwCl [(m0, .inr (8, [.ref mH, .int 0, .long 0, .int 0, .long 0, .int 0, .int 0, .int 0, .int 0, .int 0, .int 0, .long 0, .int 0, .int 0, .ref mI, .ref mJ, .ref mS, .ref mD, .int 0, .int 0, .int 0, .long 0, .ref mX, .int 2, .int 0, .int 0, .ref mA, .ref mB, .ref mW, .ref mL, .int 0])), (mX, .inl (cB, 2000, .inl (upd (upd (fun _ => 0) (0 : Int32).toNatClampNeg (vp_nar .byte (v >>> ((0 : Int32).toInt64 &&& 63)).toInt32.toInt8.toInt32)) (1 : Int32).toNatClampNeg (vp_nar .byte (v >>> ((8 : Int32).toInt64 &&& 63)).toInt32.toInt8.toInt32))))] H := hP
            have hD : va_D A [(m0, .inr (8, [.ref mH, .int 0, .long 0, .int 0, .long 0, .int 0, .int 0, .int 0, .int 0, .int 0, .int 0, .long 0, .int 0, .int 0, .ref mI, .ref mJ, .ref mS, .ref mD, .int 0, .int 0, .int 0, .long 0, .ref mX, .int 2, .int 0, .int 0, .ref mA, .ref mB, .ref mW, .ref mL, .int 0])), (mX, .inl (cB, 2000, .inl (upd (upd (fun _ => 0) (0 : Int32).toNatClampNeg (vp_nar .byte (v >>> ((0 : Int32).toInt64 &&& 63)).toInt32.toInt8.toInt32)) (1 : Int32).toNatClampNeg (vp_nar .byte (v >>> ((8 : Int32).toInt64 &&& 63)).toInt32.toInt8.toInt32))))] := hD
            refine lv_iinc (v := 2) (lv' := [(4, .int 2), (0, .ref m0), (1, .long v), (3, .int 7)]) hx hb dX8_feed_66 hl (k := 0) rfl (by decide) (by decide) rfl (fun ls hl => ?_)
            refine lv_goto (tgt := 32) hx hb dX8_feed_69 (by decide) ?_
            refine lv_iload hx hb dX8_feed_32 (lv_at hl 0 rfl) ?_
            refine lv_iload_n hx hb dX8_feed_34 rfl (lv_at hl 3 rfl) ?_
            refine lv_icmp_ge (tgt := 72) hx hb dX8_feed_35 (by decide) (fun c_35_112 => ?_) (fun c_35_112 => ?_)
            · exact absurd c_35_112 (by decide)
            · have t_35_112 := c_35_112
              try simp only [kb_eq0, kb_ne0, lg_cmp_lt, lg_cmp_le, lg_cmp_gt, lg_cmp_ge, lg_cmp_eq] at t_35_112
              try simp only [Int32.lt_iff_toInt_lt, Int32.le_iff_toInt_le, ← Int32.toInt_inj, Int64.lt_iff_toInt_lt, Int64.le_iff_toInt_le, ← Int64.toInt_inj, Int32.toInt_toInt64, Int32.reduceToInt, Int64.reduceToInt] at t_35_112
              refine lv_aload_n hx hb dX8_feed_38 rfl (lv_at hl 1 rfl) ?_
              refine va_get (D := D) (ci := 8) (v := .ref mX) (C := RX8) (T := TX8) (N := 31) hx hb hts iX8_feed_X8 hown hK hP 0 rfl rfl 22 (by decide) (hts (.fieldLink RX8 26 "TapeCalculatorModel" "text" "[B") (List.mem_of_getElem? (i := 3) rfl)) (fun _ h9 => h9) rfl dX8_feed_39 ?_
              refine lv_aload_n hx hb dX8_feed_42 rfl (lv_at hl 1 rfl) ?_
              refine va_get (D := D) (ci := 8) (v := .int 2) (C := RX8) (T := TX8) (N := 31) hx hb hts iX8_feed_X8 hown hK hP 0 rfl rfl 23 (by decide) (hts (.fieldLink RX8 243 "TapeCalculatorModel" "textSize" "I") (List.mem_of_getElem? (i := 2) rfl)) (fun _ h9 => h9) rfl dX8_feed_43 ?_
              refine lv_lload_n hx hb dX8_feed_46 rfl (lv_at hl 2 rfl) ?_
              refine lv_bipush (v := 8) hx hb dX8_feed_47 (by decide) ?_
              refine lv_iload hx hb dX8_feed_49 (lv_at hl 0 rfl) ?_
              refine lv_imul hx hb dX8_feed_51 ?_
              refine lv_topi (fun x_114 ex_114 => ?_)
              obtain rfl : x_114 = 16 := ex_114.trans (by decide)
              refine lv_lshr hx hb dX8_feed_52 rfl ?_
              refine lv_l2i hx hb dX8_feed_53 rfl ?_
              refine lv_i2b hx hb dX8_feed_54 rfl ?_
              refine va_bast hx hb hK hP hD hS 1 2 rfl rfl (vp_in_iff.mpr (by decide)) dX8_feed_55 (fun H locs hP hD hS => ?_)
              have hP : va_P D vwCl [(m0, .inr (8, [.ref mH, .int 0, .long 0, .int 0, .long 0, .int 0, .int 0, .int 0, .int 0, .int 0, .int 0, .long 0, .int 0, .int 0, .ref mI, .ref mJ, .ref mS, .ref mD, .int 0, .int 0, .int 0, .long 0, .ref mX, .int 2, .int 0, .int 0, .ref mA, .ref mB, .ref mW, .ref mL, .int 0])), (mX, .inl (cB, 2000, .inl (upd (upd (upd (fun _ => 0) (0 : Int32).toNatClampNeg (vp_nar .byte (v >>> ((0 : Int32).toInt64 &&& 63)).toInt32.toInt8.toInt32)) (1 : Int32).toNatClampNeg (vp_nar .byte (v >>> ((8 : Int32).toInt64 &&& 63)).toInt32.toInt8.toInt32)) (2 : Int32).toNatClampNeg (vp_nar .byte (v >>> ((16 : Int32).toInt64 &&& 63)).toInt32.toInt8.toInt32))))] H := hP
              have hD : va_D A [(m0, .inr (8, [.ref mH, .int 0, .long 0, .int 0, .long 0, .int 0, .int 0, .int 0, .int 0, .int 0, .int 0, .long 0, .int 0, .int 0, .ref mI, .ref mJ, .ref mS, .ref mD, .int 0, .int 0, .int 0, .long 0, .ref mX, .int 2, .int 0, .int 0, .ref mA, .ref mB, .ref mW, .ref mL, .int 0])), (mX, .inl (cB, 2000, .inl (upd (upd (upd (fun _ => 0) (0 : Int32).toNatClampNeg (vp_nar .byte (v >>> ((0 : Int32).toInt64 &&& 63)).toInt32.toInt8.toInt32)) (1 : Int32).toNatClampNeg (vp_nar .byte (v >>> ((8 : Int32).toInt64 &&& 63)).toInt32.toInt8.toInt32)) (2 : Int32).toNatClampNeg (vp_nar .byte (v >>> ((16 : Int32).toInt64 &&& 63)).toInt32.toInt8.toInt32))))] := hD
              refine lv_aload_n hx hb dX8_feed_56 rfl (lv_at hl 1 rfl) ?_
              refine lv_dup hx hb dX8_feed_57 rfl ?_
              refine va_get (D := D) (ci := 8) (v := .int 2) (C := RX8) (T := TX8) (N := 31) hx hb hts iX8_feed_X8 hown hK hP 0 rfl rfl 23 (by decide) (hts (.fieldLink RX8 243 "TapeCalculatorModel" "textSize" "I") (List.mem_of_getElem? (i := 2) rfl)) (fun _ h9 => h9) rfl dX8_feed_58 ?_
              refine lv_iconst (v := 1) hx hb dX8_feed_61 (by decide) ?_
              refine lv_iadd hx hb dX8_feed_62 ?_
              refine lv_topi (fun x_115 ex_115 => ?_)
              obtain rfl : x_115 = 3 := ex_115.trans (by decide)
              refine va_put (D := D) (ci := 8) (v := .int 3) (ty := .int) (C := RX8) (T := TX8) (N := 31) hx hb hts iX8_feed_X8 tyX8 tyX8_ok nmX8 hown hK hP hD hS 0 rfl rfl 23 (by decide) (hts (.fieldLink RX8 243 "TapeCalculatorModel" "textSize" "I") (List.mem_of_getElem? (i := 2) rfl)) (fun _ h9 => h9) rfl (by decide +kernel) rfl rfl (Nat.le_of_ble_eq_true rfl) dX8_feed_63 (fun H locs hP hD hS => ?_)
              have hP : va_P D vwCl [(m0, .inr (8, [.ref mH, .int 0, .long 0, .int 0, .long 0, .int 0, .int 0, .int 0, .int 0, .int 0, .int 0, .long 0, .int 0, .int 0, .ref mI, .ref mJ, .ref mS, .ref mD, .int 0, .int 0, .int 0, .long 0, .ref mX, .int 3, .int 0, .int 0, .ref mA, .ref mB, .ref mW, .ref mL, .int 0])), (mX, .inl (cB, 2000, .inl (upd (upd (upd (fun _ => 0) (0 : Int32).toNatClampNeg (vp_nar .byte (v >>> ((0 : Int32).toInt64 &&& 63)).toInt32.toInt8.toInt32)) (1 : Int32).toNatClampNeg (vp_nar .byte (v >>> ((8 : Int32).toInt64 &&& 63)).toInt32.toInt8.toInt32)) (2 : Int32).toNatClampNeg (vp_nar .byte (v >>> ((16 : Int32).toInt64 &&& 63)).toInt32.toInt8.toInt32))))] H := hP
              have hD : va_D A [(m0, .inr (8, [.ref mH, .int 0, .long 0, .int 0, .long 0, .int 0, .int 0, .int 0, .int 0, .int 0, .int 0, .long 0, .int 0, .int 0, .ref mI, .ref mJ, .ref mS, .ref mD, .int 0, .int 0, .int 0, .long 0, .ref mX, .int 3, .int 0, .int 0, .ref mA, .ref mB, .ref mW, .ref mL, .int 0])), (mX, .inl (cB, 2000, .inl (upd (upd (upd (fun _ => 0) (0 : Int32).toNatClampNeg (vp_nar .byte (v >>> ((0 : Int32).toInt64 &&& 63)).toInt32.toInt8.toInt32)) (1 : Int32).toNatClampNeg (vp_nar .byte (v >>> ((8 : Int32).toInt64 &&& 63)).toInt32.toInt8.toInt32)) (2 : Int32).toNatClampNeg (vp_nar .byte (v >>> ((16 : Int32).toInt64 &&& 63)).toInt32.toInt8.toInt32))))] := hD
              refine lv_iinc (v := 3) (lv' := [(4, .int 3), (0, .ref m0), (1, .long v), (3, .int 7)]) hx hb dX8_feed_66 hl (k := 0) rfl (by decide) (by decide) rfl (fun ls hl => ?_)
              refine lv_goto (tgt := 32) hx hb dX8_feed_69 (by decide) ?_
              refine lv_iload hx hb dX8_feed_32 (lv_at hl 0 rfl) ?_
              refine lv_iload_n hx hb dX8_feed_34 rfl (lv_at hl 3 rfl) ?_
              refine lv_icmp_ge (tgt := 72) hx hb dX8_feed_35 (by decide) (fun c_35_115 => ?_) (fun c_35_115 => ?_)
              · exact absurd c_35_115 (by decide)
              · have t_35_115 := c_35_115
                try simp only [kb_eq0, kb_ne0, lg_cmp_lt, lg_cmp_le, lg_cmp_gt, lg_cmp_ge, lg_cmp_eq] at t_35_115
                try simp only [Int32.lt_iff_toInt_lt, Int32.le_iff_toInt_le, ← Int32.toInt_inj, Int64.lt_iff_toInt_lt, Int64.le_iff_toInt_le, ← Int64.toInt_inj, Int32.toInt_toInt64, Int32.reduceToInt, Int64.reduceToInt] at t_35_115
                refine lv_aload_n hx hb dX8_feed_38 rfl (lv_at hl 1 rfl) ?_
                refine va_get (D := D) (ci := 8) (v := .ref mX) (C := RX8) (T := TX8) (N := 31) hx hb hts iX8_feed_X8 hown hK hP 0 rfl rfl 22 (by decide) (hts (.fieldLink RX8 26 "TapeCalculatorModel" "text" "[B") (List.mem_of_getElem? (i := 3) rfl)) (fun _ h9 => h9) rfl dX8_feed_39 ?_
                refine lv_aload_n hx hb dX8_feed_42 rfl (lv_at hl 1 rfl) ?_
                refine va_get (D := D) (ci := 8) (v := .int 3) (C := RX8) (T := TX8) (N := 31) hx hb hts iX8_feed_X8 hown hK hP 0 rfl rfl 23 (by decide) (hts (.fieldLink RX8 243 "TapeCalculatorModel" "textSize" "I") (List.mem_of_getElem? (i := 2) rfl)) (fun _ h9 => h9) rfl dX8_feed_43 ?_
                refine lv_lload_n hx hb dX8_feed_46 rfl (lv_at hl 2 rfl) ?_
                refine lv_bipush (v := 8) hx hb dX8_feed_47 (by decide) ?_
                refine lv_iload hx hb dX8_feed_49 (lv_at hl 0 rfl) ?_
                refine lv_imul hx hb dX8_feed_51 ?_
                refine lv_topi (fun x_117 ex_117 => ?_)
                obtain rfl : x_117 = 24 := ex_117.trans (by decide)
                refine lv_lshr hx hb dX8_feed_52 rfl ?_
                refine lv_l2i hx hb dX8_feed_53 rfl ?_
                refine lv_i2b hx hb dX8_feed_54 rfl ?_
                refine va_bast hx hb hK hP hD hS 1 2 rfl rfl (vp_in_iff.mpr (by decide)) dX8_feed_55 (fun H locs hP hD hS => ?_)
                have hP : va_P D vwCl [(m0, .inr (8, [.ref mH, .int 0, .long 0, .int 0, .long 0, .int 0, .int 0, .int 0, .int 0, .int 0, .int 0, .long 0, .int 0, .int 0, .ref mI, .ref mJ, .ref mS, .ref mD, .int 0, .int 0, .int 0, .long 0, .ref mX, .int 3, .int 0, .int 0, .ref mA, .ref mB, .ref mW, .ref mL, .int 0])), (mX, .inl (cB, 2000, .inl (upd (upd (upd (upd (fun _ => 0) (0 : Int32).toNatClampNeg (vp_nar .byte (v >>> ((0 : Int32).toInt64 &&& 63)).toInt32.toInt8.toInt32)) (1 : Int32).toNatClampNeg (vp_nar .byte (v >>> ((8 : Int32).toInt64 &&& 63)).toInt32.toInt8.toInt32)) (2 : Int32).toNatClampNeg (vp_nar .byte (v >>> ((16 : Int32).toInt64 &&& 63)).toInt32.toInt8.toInt32)) (3 : Int32).toNatClampNeg (vp_nar .byte (v >>> ((24 : Int32).toInt64 &&& 63)).toInt32.toInt8.toInt32))))] H := hP
                have hD : va_D A [(m0, .inr (8, [.ref mH, .int 0, .long 0, .int 0, .long 0, .int 0, .int 0, .int 0, .int 0, .int 0, .int 0, .long 0, .int 0, .int 0, .ref mI, .ref mJ, .ref mS, .ref mD, .int 0, .int 0, .int 0, .long 0, .ref mX, .int 3, .int 0, .int 0, .ref mA, .ref mB, .ref mW, .ref mL, .int 0])), (mX, .inl (cB, 2000, .inl (upd (upd (upd (upd (fun _ => 0) (0 : Int32).toNatClampNeg (vp_nar .byte (v >>> ((0 : Int32).toInt64 &&& 63)).toInt32.toInt8.toInt32)) (1 : Int32).toNatClampNeg (vp_nar .byte (v >>> ((8 : Int32).toInt64 &&& 63)).toInt32.toInt8.toInt32)) (2 : Int32).toNatClampNeg (vp_nar .byte (v >>> ((16 : Int32).toInt64 &&& 63)).toInt32.toInt8.toInt32)) (3 : Int32).toNatClampNeg (vp_nar .byte (v >>> ((24 : Int32).toInt64 &&& 63)).toInt32.toInt8.toInt32))))] := hD
                refine lv_aload_n hx hb dX8_feed_56 rfl (lv_at hl 1 rfl) ?_
                refine lv_dup hx hb dX8_feed_57 rfl ?_
                refine va_get (D := D) (ci := 8) (v := .int 3) (C := RX8) (T := TX8) (N := 31) hx hb hts iX8_feed_X8 hown hK hP 0 rfl rfl 23 (by decide) (hts (.fieldLink RX8 243 "TapeCalculatorModel" "textSize" "I") (List.mem_of_getElem? (i := 2) rfl)) (fun _ h9 => h9) rfl dX8_feed_58 ?_
                refine lv_iconst (v := 1) hx hb dX8_feed_61 (by decide) ?_
                refine lv_iadd hx hb dX8_feed_62 ?_
                refine lv_topi (fun x_118 ex_118 => ?_)
                obtain rfl : x_118 = 4 := ex_118.trans (by decide)
                refine va_put (D := D) (ci := 8) (v := .int 4) (ty := .int) (C := RX8) (T := TX8) (N := 31) hx hb hts iX8_feed_X8 tyX8 tyX8_ok nmX8 hown hK hP hD hS 0 rfl rfl 23 (by decide) (hts (.fieldLink RX8 243 "TapeCalculatorModel" "textSize" "I") (List.mem_of_getElem? (i := 2) rfl)) (fun _ h9 => h9) rfl (by decide +kernel) rfl rfl (Nat.le_of_ble_eq_true rfl) dX8_feed_63 (fun H locs hP hD hS => ?_)
                have hP : va_P D vwCl [(m0, .inr (8, [.ref mH, .int 0, .long 0, .int 0, .long 0, .int 0, .int 0, .int 0, .int 0, .int 0, .int 0, .long 0, .int 0, .int 0, .ref mI, .ref mJ, .ref mS, .ref mD, .int 0, .int 0, .int 0, .long 0, .ref mX, .int 4, .int 0, .int 0, .ref mA, .ref mB, .ref mW, .ref mL, .int 0])), (mX, .inl (cB, 2000, .inl (upd (upd (upd (upd (fun _ => 0) (0 : Int32).toNatClampNeg (vp_nar .byte (v >>> ((0 : Int32).toInt64 &&& 63)).toInt32.toInt8.toInt32)) (1 : Int32).toNatClampNeg (vp_nar .byte (v >>> ((8 : Int32).toInt64 &&& 63)).toInt32.toInt8.toInt32)) (2 : Int32).toNatClampNeg (vp_nar .byte (v >>> ((16 : Int32).toInt64 &&& 63)).toInt32.toInt8.toInt32)) (3 : Int32).toNatClampNeg (vp_nar .byte (v >>> ((24 : Int32).toInt64 &&& 63)).toInt32.toInt8.toInt32))))] H := hP
                have hD : va_D A [(m0, .inr (8, [.ref mH, .int 0, .long 0, .int 0, .long 0, .int 0, .int 0, .int 0, .int 0, .int 0, .int 0, .long 0, .int 0, .int 0, .ref mI, .ref mJ, .ref mS, .ref mD, .int 0, .int 0, .int 0, .long 0, .ref mX, .int 4, .int 0, .int 0, .ref mA, .ref mB, .ref mW, .ref mL, .int 0])), (mX, .inl (cB, 2000, .inl (upd (upd (upd (upd (fun _ => 0) (0 : Int32).toNatClampNeg (vp_nar .byte (v >>> ((0 : Int32).toInt64 &&& 63)).toInt32.toInt8.toInt32)) (1 : Int32).toNatClampNeg (vp_nar .byte (v >>> ((8 : Int32).toInt64 &&& 63)).toInt32.toInt8.toInt32)) (2 : Int32).toNatClampNeg (vp_nar .byte (v >>> ((16 : Int32).toInt64 &&& 63)).toInt32.toInt8.toInt32)) (3 : Int32).toNatClampNeg (vp_nar .byte (v >>> ((24 : Int32).toInt64 &&& 63)).toInt32.toInt8.toInt32))))] := hD
                refine lv_iinc (v := 4) (lv' := [(4, .int 4), (0, .ref m0), (1, .long v), (3, .int 7)]) hx hb dX8_feed_66 hl (k := 0) rfl (by decide) (by decide) rfl (fun ls hl => ?_)
                refine lv_goto (tgt := 32) hx hb dX8_feed_69 (by decide) ?_
                refine lv_iload hx hb dX8_feed_32 (lv_at hl 0 rfl) ?_
                refine lv_iload_n hx hb dX8_feed_34 rfl (lv_at hl 3 rfl) ?_
                refine lv_icmp_ge (tgt := 72) hx hb dX8_feed_35 (by decide) (fun c_35_118 => ?_) (fun c_35_118 => ?_)
                · exact absurd c_35_118 (by decide)
                · have t_35_118 := c_35_118
                  try simp only [kb_eq0, kb_ne0, lg_cmp_lt, lg_cmp_le, lg_cmp_gt, lg_cmp_ge, lg_cmp_eq] at t_35_118
                  try simp only [Int32.lt_iff_toInt_lt, Int32.le_iff_toInt_le, ← Int32.toInt_inj, Int64.lt_iff_toInt_lt, Int64.le_iff_toInt_le, ← Int64.toInt_inj, Int32.toInt_toInt64, Int32.reduceToInt, Int64.reduceToInt] at t_35_118
                  refine lv_aload_n hx hb dX8_feed_38 rfl (lv_at hl 1 rfl) ?_
                  refine va_get (D := D) (ci := 8) (v := .ref mX) (C := RX8) (T := TX8) (N := 31) hx hb hts iX8_feed_X8 hown hK hP 0 rfl rfl 22 (by decide) (hts (.fieldLink RX8 26 "TapeCalculatorModel" "text" "[B") (List.mem_of_getElem? (i := 3) rfl)) (fun _ h9 => h9) rfl dX8_feed_39 ?_
                  refine lv_aload_n hx hb dX8_feed_42 rfl (lv_at hl 1 rfl) ?_
                  refine va_get (D := D) (ci := 8) (v := .int 4) (C := RX8) (T := TX8) (N := 31) hx hb hts iX8_feed_X8 hown hK hP 0 rfl rfl 23 (by decide) (hts (.fieldLink RX8 243 "TapeCalculatorModel" "textSize" "I") (List.mem_of_getElem? (i := 2) rfl)) (fun _ h9 => h9) rfl dX8_feed_43 ?_
                  refine lv_lload_n hx hb dX8_feed_46 rfl (lv_at hl 2 rfl) ?_
                  refine lv_bipush (v := 8) hx hb dX8_feed_47 (by decide) ?_
                  refine lv_iload hx hb dX8_feed_49 (lv_at hl 0 rfl) ?_
                  refine lv_imul hx hb dX8_feed_51 ?_
                  refine lv_topi (fun x_120 ex_120 => ?_)
                  obtain rfl : x_120 = 32 := ex_120.trans (by decide)
                  refine lv_lshr hx hb dX8_feed_52 rfl ?_
                  refine lv_l2i hx hb dX8_feed_53 rfl ?_
                  refine lv_i2b hx hb dX8_feed_54 rfl ?_
                  refine va_bast hx hb hK hP hD hS 1 2 rfl rfl (vp_in_iff.mpr (by decide)) dX8_feed_55 (fun H locs hP hD hS => ?_)
                  have hP : va_P D vwCl [(m0, .inr (8, [.ref mH, .int 0, .long 0, .int 0, .long 0, .int 0, .int 0, .int 0, .int 0, .int 0, .int 0, .long 0, .int 0, .int 0, .ref mI, .ref mJ, .ref mS, .ref mD, .int 0, .int 0, .int 0, .long 0, .ref mX, .int 4, .int 0, .int 0, .ref mA, .ref mB, .ref mW, .ref mL, .int 0])), (mX, .inl (cB, 2000, .inl (upd (upd (upd (upd (upd (fun _ => 0) (0 : Int32).toNatClampNeg (vp_nar .byte (v >>> ((0 : Int32).toInt64 &&& 63)).toInt32.toInt8.toInt32)) (1 : Int32).toNatClampNeg (vp_nar .byte (v >>> ((8 : Int32).toInt64 &&& 63)).toInt32.toInt8.toInt32)) (2 : Int32).toNatClampNeg (vp_nar .byte (v >>> ((16 : Int32).toInt64 &&& 63)).toInt32.toInt8.toInt32)) (3 : Int32).toNatClampNeg (vp_nar .byte (v >>> ((24 : Int32).toInt64 &&& 63)).toInt32.toInt8.toInt32)) (4 : Int32).toNatClampNeg (vp_nar .byte (v >>> ((32 : Int32).toInt64 &&& 63)).toInt32.toInt8.toInt32))))] H := hP
                  have hD : va_D A [(m0, .inr (8, [.ref mH, .int 0, .long 0, .int 0, .long 0, .int 0, .int 0, .int 0, .int 0, .int 0, .int 0, .long 0, .int 0, .int 0, .ref mI, .ref mJ, .ref mS, .ref mD, .int 0, .int 0, .int 0, .long 0, .ref mX, .int 4, .int 0, .int 0, .ref mA, .ref mB, .ref mW, .ref mL, .int 0])), (mX, .inl (cB, 2000, .inl (upd (upd (upd (upd (upd (fun _ => 0) (0 : Int32).toNatClampNeg (vp_nar .byte (v >>> ((0 : Int32).toInt64 &&& 63)).toInt32.toInt8.toInt32)) (1 : Int32).toNatClampNeg (vp_nar .byte (v >>> ((8 : Int32).toInt64 &&& 63)).toInt32.toInt8.toInt32)) (2 : Int32).toNatClampNeg (vp_nar .byte (v >>> ((16 : Int32).toInt64 &&& 63)).toInt32.toInt8.toInt32)) (3 : Int32).toNatClampNeg (vp_nar .byte (v >>> ((24 : Int32).toInt64 &&& 63)).toInt32.toInt8.toInt32)) (4 : Int32).toNatClampNeg (vp_nar .byte (v >>> ((32 : Int32).toInt64 &&& 63)).toInt32.toInt8.toInt32))))] := hD
                  refine lv_aload_n hx hb dX8_feed_56 rfl (lv_at hl 1 rfl) ?_
                  refine lv_dup hx hb dX8_feed_57 rfl ?_
                  refine va_get (D := D) (ci := 8) (v := .int 4) (C := RX8) (T := TX8) (N := 31) hx hb hts iX8_feed_X8 hown hK hP 0 rfl rfl 23 (by decide) (hts (.fieldLink RX8 243 "TapeCalculatorModel" "textSize" "I") (List.mem_of_getElem? (i := 2) rfl)) (fun _ h9 => h9) rfl dX8_feed_58 ?_
                  refine lv_iconst (v := 1) hx hb dX8_feed_61 (by decide) ?_
                  refine lv_iadd hx hb dX8_feed_62 ?_
                  refine lv_topi (fun x_121 ex_121 => ?_)
                  obtain rfl : x_121 = 5 := ex_121.trans (by decide)
                  refine va_put (D := D) (ci := 8) (v := .int 5) (ty := .int) (C := RX8) (T := TX8) (N := 31) hx hb hts iX8_feed_X8 tyX8 tyX8_ok nmX8 hown hK hP hD hS 0 rfl rfl 23 (by decide) (hts (.fieldLink RX8 243 "TapeCalculatorModel" "textSize" "I") (List.mem_of_getElem? (i := 2) rfl)) (fun _ h9 => h9) rfl (by decide +kernel) rfl rfl (Nat.le_of_ble_eq_true rfl) dX8_feed_63 (fun H locs hP hD hS => ?_)
                  have hP : va_P D vwCl [(m0, .inr (8, [.ref mH, .int 0, .long 0, .int 0, .long 0, .int 0, .int 0, .int 0, .int 0, .int 0, .int 0, .long 0, .int 0, .int 0, .ref mI, .ref mJ, .ref mS, .ref mD, .int 0, .int 0, .int 0, .long 0, .ref mX, .int 5, .int 0, .int 0, .ref mA, .ref mB, .ref mW, .ref mL, .int 0])), (mX, .inl (cB, 2000, .inl (upd (upd (upd (upd (upd (fun _ => 0) (0 : Int32).toNatClampNeg (vp_nar .byte (v >>> ((0 : Int32).toInt64 &&& 63)).toInt32.toInt8.toInt32)) (1 : Int32).toNatClampNeg (vp_nar .byte (v >>> ((8 : Int32).toInt64 &&& 63)).toInt32.toInt8.toInt32)) (2 : Int32).toNatClampNeg (vp_nar .byte (v >>> ((16 : Int32).toInt64 &&& 63)).toInt32.toInt8.toInt32)) (3 : Int32).toNatClampNeg (vp_nar .byte (v >>> ((24 : Int32).toInt64 &&& 63)).toInt32.toInt8.toInt32)) (4 : Int32).toNatClampNeg (vp_nar .byte (v >>> ((32 : Int32).toInt64 &&& 63)).toInt32.toInt8.toInt32))))] H := hP
                  have hD : va_D A [(m0, .inr (8, [.ref mH, .int 0, .long 0, .int 0, .long 0, .int 0, .int 0, .int 0, .int 0, .int 0, .int 0, .long 0, .int 0, .int 0, .ref mI, .ref mJ, .ref mS, .ref mD, .int 0, .int 0, .int 0, .long 0, .ref mX, .int 5, .int 0, .int 0, .ref mA, .ref mB, .ref mW, .ref mL, .int 0])), (mX, .inl (cB, 2000, .inl (upd (upd (upd (upd (upd (fun _ => 0) (0 : Int32).toNatClampNeg (vp_nar .byte (v >>> ((0 : Int32).toInt64 &&& 63)).toInt32.toInt8.toInt32)) (1 : Int32).toNatClampNeg (vp_nar .byte (v >>> ((8 : Int32).toInt64 &&& 63)).toInt32.toInt8.toInt32)) (2 : Int32).toNatClampNeg (vp_nar .byte (v >>> ((16 : Int32).toInt64 &&& 63)).toInt32.toInt8.toInt32)) (3 : Int32).toNatClampNeg (vp_nar .byte (v >>> ((24 : Int32).toInt64 &&& 63)).toInt32.toInt8.toInt32)) (4 : Int32).toNatClampNeg (vp_nar .byte (v >>> ((32 : Int32).toInt64 &&& 63)).toInt32.toInt8.toInt32))))] := hD
                  refine lv_iinc (v := 5) (lv' := [(4, .int 5), (0, .ref m0), (1, .long v), (3, .int 7)]) hx hb dX8_feed_66 hl (k := 0) rfl (by decide) (by decide) rfl (fun ls hl => ?_)
                  refine lv_goto (tgt := 32) hx hb dX8_feed_69 (by decide) ?_
                  refine lv_iload hx hb dX8_feed_32 (lv_at hl 0 rfl) ?_
                  refine lv_iload_n hx hb dX8_feed_34 rfl (lv_at hl 3 rfl) ?_
                  refine lv_icmp_ge (tgt := 72) hx hb dX8_feed_35 (by decide) (fun c_35_121 => ?_) (fun c_35_121 => ?_)
                  · exact absurd c_35_121 (by decide)
                  · have t_35_121 := c_35_121
                    try simp only [kb_eq0, kb_ne0, lg_cmp_lt, lg_cmp_le, lg_cmp_gt, lg_cmp_ge, lg_cmp_eq] at t_35_121
                    try simp only [Int32.lt_iff_toInt_lt, Int32.le_iff_toInt_le, ← Int32.toInt_inj, Int64.lt_iff_toInt_lt, Int64.le_iff_toInt_le, ← Int64.toInt_inj, Int32.toInt_toInt64, Int32.reduceToInt, Int64.reduceToInt] at t_35_121
                    refine lv_aload_n hx hb dX8_feed_38 rfl (lv_at hl 1 rfl) ?_
                    refine va_get (D := D) (ci := 8) (v := .ref mX) (C := RX8) (T := TX8) (N := 31) hx hb hts iX8_feed_X8 hown hK hP 0 rfl rfl 22 (by decide) (hts (.fieldLink RX8 26 "TapeCalculatorModel" "text" "[B") (List.mem_of_getElem? (i := 3) rfl)) (fun _ h9 => h9) rfl dX8_feed_39 ?_
                    refine lv_aload_n hx hb dX8_feed_42 rfl (lv_at hl 1 rfl) ?_
                    refine va_get (D := D) (ci := 8) (v := .int 5) (C := RX8) (T := TX8) (N := 31) hx hb hts iX8_feed_X8 hown hK hP 0 rfl rfl 23 (by decide) (hts (.fieldLink RX8 243 "TapeCalculatorModel" "textSize" "I") (List.mem_of_getElem? (i := 2) rfl)) (fun _ h9 => h9) rfl dX8_feed_43 ?_
                    refine lv_lload_n hx hb dX8_feed_46 rfl (lv_at hl 2 rfl) ?_
                    refine lv_bipush (v := 8) hx hb dX8_feed_47 (by decide) ?_
                    refine lv_iload hx hb dX8_feed_49 (lv_at hl 0 rfl) ?_
                    refine lv_imul hx hb dX8_feed_51 ?_
                    refine lv_topi (fun x_123 ex_123 => ?_)
                    obtain rfl : x_123 = 40 := ex_123.trans (by decide)
                    refine lv_lshr hx hb dX8_feed_52 rfl ?_
                    refine lv_l2i hx hb dX8_feed_53 rfl ?_
                    refine lv_i2b hx hb dX8_feed_54 rfl ?_
                    refine va_bast hx hb hK hP hD hS 1 2 rfl rfl (vp_in_iff.mpr (by decide)) dX8_feed_55 (fun H locs hP hD hS => ?_)
                    have hP : va_P D vwCl [(m0, .inr (8, [.ref mH, .int 0, .long 0, .int 0, .long 0, .int 0, .int 0, .int 0, .int 0, .int 0, .int 0, .long 0, .int 0, .int 0, .ref mI, .ref mJ, .ref mS, .ref mD, .int 0, .int 0, .int 0, .long 0, .ref mX, .int 5, .int 0, .int 0, .ref mA, .ref mB, .ref mW, .ref mL, .int 0])), (mX, .inl (cB, 2000, .inl (upd (upd (upd (upd (upd (upd (fun _ => 0) (0 : Int32).toNatClampNeg (vp_nar .byte (v >>> ((0 : Int32).toInt64 &&& 63)).toInt32.toInt8.toInt32)) (1 : Int32).toNatClampNeg (vp_nar .byte (v >>> ((8 : Int32).toInt64 &&& 63)).toInt32.toInt8.toInt32)) (2 : Int32).toNatClampNeg (vp_nar .byte (v >>> ((16 : Int32).toInt64 &&& 63)).toInt32.toInt8.toInt32)) (3 : Int32).toNatClampNeg (vp_nar .byte (v >>> ((24 : Int32).toInt64 &&& 63)).toInt32.toInt8.toInt32)) (4 : Int32).toNatClampNeg (vp_nar .byte (v >>> ((32 : Int32).toInt64 &&& 63)).toInt32.toInt8.toInt32)) (5 : Int32).toNatClampNeg (vp_nar .byte (v >>> ((40 : Int32).toInt64 &&& 63)).toInt32.toInt8.toInt32))))] H := hP
                    have hD : va_D A [(m0, .inr (8, [.ref mH, .int 0, .long 0, .int 0, .long 0, .int 0, .int 0, .int 0, .int 0, .int 0, .int 0, .long 0, .int 0, .int 0, .ref mI, .ref mJ, .ref mS, .ref mD, .int 0, .int 0, .int 0, .long 0, .ref mX, .int 5, .int 0, .int 0, .ref mA, .ref mB, .ref mW, .ref mL, .int 0])), (mX, .inl (cB, 2000, .inl (upd (upd (upd (upd (upd (upd (fun _ => 0) (0 : Int32).toNatClampNeg (vp_nar .byte (v >>> ((0 : Int32).toInt64 &&& 63)).toInt32.toInt8.toInt32)) (1 : Int32).toNatClampNeg (vp_nar .byte (v >>> ((8 : Int32).toInt64 &&& 63)).toInt32.toInt8.toInt32)) (2 : Int32).toNatClampNeg (vp_nar .byte (v >>> ((16 : Int32).toInt64 &&& 63)).toInt32.toInt8.toInt32)) (3 : Int32).toNatClampNeg (vp_nar .byte (v >>> ((24 : Int32).toInt64 &&& 63)).toInt32.toInt8.toInt32)) (4 : Int32).toNatClampNeg (vp_nar .byte (v >>> ((32 : Int32).toInt64 &&& 63)).toInt32.toInt8.toInt32)) (5 : Int32).toNatClampNeg (vp_nar .byte (v >>> ((40 : Int32).toInt64 &&& 63)).toInt32.toInt8.toInt32))))] := hD
                    refine lv_aload_n hx hb dX8_feed_56 rfl (lv_at hl 1 rfl) ?_
                    refine lv_dup hx hb dX8_feed_57 rfl ?_
                    refine va_get (D := D) (ci := 8) (v := .int 5) (C := RX8) (T := TX8) (N := 31) hx hb hts iX8_feed_X8 hown hK hP 0 rfl rfl 23 (by decide) (hts (.fieldLink RX8 243 "TapeCalculatorModel" "textSize" "I") (List.mem_of_getElem? (i := 2) rfl)) (fun _ h9 => h9) rfl dX8_feed_58 ?_
                    refine lv_iconst (v := 1) hx hb dX8_feed_61 (by decide) ?_
                    refine lv_iadd hx hb dX8_feed_62 ?_
                    refine lv_topi (fun x_124 ex_124 => ?_)
                    obtain rfl : x_124 = 6 := ex_124.trans (by decide)
                    refine va_put (D := D) (ci := 8) (v := .int 6) (ty := .int) (C := RX8) (T := TX8) (N := 31) hx hb hts iX8_feed_X8 tyX8 tyX8_ok nmX8 hown hK hP hD hS 0 rfl rfl 23 (by decide) (hts (.fieldLink RX8 243 "TapeCalculatorModel" "textSize" "I") (List.mem_of_getElem? (i := 2) rfl)) (fun _ h9 => h9) rfl (by decide +kernel) rfl rfl (Nat.le_of_ble_eq_true rfl) dX8_feed_63 (fun H locs hP hD hS => ?_)
                    have hP : va_P D vwCl [(m0, .inr (8, [.ref mH, .int 0, .long 0, .int 0, .long 0, .int 0, .int 0, .int 0, .int 0, .int 0, .int 0, .long 0, .int 0, .int 0, .ref mI, .ref mJ, .ref mS, .ref mD, .int 0, .int 0, .int 0, .long 0, .ref mX, .int 6, .int 0, .int 0, .ref mA, .ref mB, .ref mW, .ref mL, .int 0])), (mX, .inl (cB, 2000, .inl (upd (upd (upd (upd (upd (upd (fun _ => 0) (0 : Int32).toNatClampNeg (vp_nar .byte (v >>> ((0 : Int32).toInt64 &&& 63)).toInt32.toInt8.toInt32)) (1 : Int32).toNatClampNeg (vp_nar .byte (v >>> ((8 : Int32).toInt64 &&& 63)).toInt32.toInt8.toInt32)) (2 : Int32).toNatClampNeg (vp_nar .byte (v >>> ((16 : Int32).toInt64 &&& 63)).toInt32.toInt8.toInt32)) (3 : Int32).toNatClampNeg (vp_nar .byte (v >>> ((24 : Int32).toInt64 &&& 63)).toInt32.toInt8.toInt32)) (4 : Int32).toNatClampNeg (vp_nar .byte (v >>> ((32 : Int32).toInt64 &&& 63)).toInt32.toInt8.toInt32)) (5 : Int32).toNatClampNeg (vp_nar .byte (v >>> ((40 : Int32).toInt64 &&& 63)).toInt32.toInt8.toInt32))))] H := hP
                    have hD : va_D A [(m0, .inr (8, [.ref mH, .int 0, .long 0, .int 0, .long 0, .int 0, .int 0, .int 0, .int 0, .int 0, .int 0, .long 0, .int 0, .int 0, .ref mI, .ref mJ, .ref mS, .ref mD, .int 0, .int 0, .int 0, .long 0, .ref mX, .int 6, .int 0, .int 0, .ref mA, .ref mB, .ref mW, .ref mL, .int 0])), (mX, .inl (cB, 2000, .inl (upd (upd (upd (upd (upd (upd (fun _ => 0) (0 : Int32).toNatClampNeg (vp_nar .byte (v >>> ((0 : Int32).toInt64 &&& 63)).toInt32.toInt8.toInt32)) (1 : Int32).toNatClampNeg (vp_nar .byte (v >>> ((8 : Int32).toInt64 &&& 63)).toInt32.toInt8.toInt32)) (2 : Int32).toNatClampNeg (vp_nar .byte (v >>> ((16 : Int32).toInt64 &&& 63)).toInt32.toInt8.toInt32)) (3 : Int32).toNatClampNeg (vp_nar .byte (v >>> ((24 : Int32).toInt64 &&& 63)).toInt32.toInt8.toInt32)) (4 : Int32).toNatClampNeg (vp_nar .byte (v >>> ((32 : Int32).toInt64 &&& 63)).toInt32.toInt8.toInt32)) (5 : Int32).toNatClampNeg (vp_nar .byte (v >>> ((40 : Int32).toInt64 &&& 63)).toInt32.toInt8.toInt32))))] := hD
                    refine lv_iinc (v := 6) (lv' := [(4, .int 6), (0, .ref m0), (1, .long v), (3, .int 7)]) hx hb dX8_feed_66 hl (k := 0) rfl (by decide) (by decide) rfl (fun ls hl => ?_)
                    refine lv_goto (tgt := 32) hx hb dX8_feed_69 (by decide) ?_
                    refine lv_iload hx hb dX8_feed_32 (lv_at hl 0 rfl) ?_
                    refine lv_iload_n hx hb dX8_feed_34 rfl (lv_at hl 3 rfl) ?_
                    refine lv_icmp_ge (tgt := 72) hx hb dX8_feed_35 (by decide) (fun c_35_124 => ?_) (fun c_35_124 => ?_)
                    · exact absurd c_35_124 (by decide)
                    · have t_35_124 := c_35_124
                      try simp only [kb_eq0, kb_ne0, lg_cmp_lt, lg_cmp_le, lg_cmp_gt, lg_cmp_ge, lg_cmp_eq] at t_35_124
                      try simp only [Int32.lt_iff_toInt_lt, Int32.le_iff_toInt_le, ← Int32.toInt_inj, Int64.lt_iff_toInt_lt, Int64.le_iff_toInt_le, ← Int64.toInt_inj, Int32.toInt_toInt64, Int32.reduceToInt, Int64.reduceToInt] at t_35_124
                      refine lv_aload_n hx hb dX8_feed_38 rfl (lv_at hl 1 rfl) ?_
                      refine va_get (D := D) (ci := 8) (v := .ref mX) (C := RX8) (T := TX8) (N := 31) hx hb hts iX8_feed_X8 hown hK hP 0 rfl rfl 22 (by decide) (hts (.fieldLink RX8 26 "TapeCalculatorModel" "text" "[B") (List.mem_of_getElem? (i := 3) rfl)) (fun _ h9 => h9) rfl dX8_feed_39 ?_
                      refine lv_aload_n hx hb dX8_feed_42 rfl (lv_at hl 1 rfl) ?_
                      refine va_get (D := D) (ci := 8) (v := .int 6) (C := RX8) (T := TX8) (N := 31) hx hb hts iX8_feed_X8 hown hK hP 0 rfl rfl 23 (by decide) (hts (.fieldLink RX8 243 "TapeCalculatorModel" "textSize" "I") (List.mem_of_getElem? (i := 2) rfl)) (fun _ h9 => h9) rfl dX8_feed_43 ?_
                      refine lv_lload_n hx hb dX8_feed_46 rfl (lv_at hl 2 rfl) ?_
                      refine lv_bipush (v := 8) hx hb dX8_feed_47 (by decide) ?_
                      refine lv_iload hx hb dX8_feed_49 (lv_at hl 0 rfl) ?_
                      refine lv_imul hx hb dX8_feed_51 ?_
                      refine lv_topi (fun x_126 ex_126 => ?_)
                      obtain rfl : x_126 = 48 := ex_126.trans (by decide)
                      refine lv_lshr hx hb dX8_feed_52 rfl ?_
                      refine lv_l2i hx hb dX8_feed_53 rfl ?_
                      refine lv_i2b hx hb dX8_feed_54 rfl ?_
                      refine va_bast hx hb hK hP hD hS 1 2 rfl rfl (vp_in_iff.mpr (by decide)) dX8_feed_55 (fun H locs hP hD hS => ?_)
                      have hP : va_P D vwCl [(m0, .inr (8, [.ref mH, .int 0, .long 0, .int 0, .long 0, .int 0, .int 0, .int 0, .int 0, .int 0, .int 0, .long 0, .int 0, .int 0, .ref mI, .ref mJ, .ref mS, .ref mD, .int 0, .int 0, .int 0, .long 0, .ref mX, .int 6, .int 0, .int 0, .ref mA, .ref mB, .ref mW, .ref mL, .int 0])), (mX, .inl (cB, 2000, .inl (upd (upd (upd (upd (upd (upd (upd (fun _ => 0) (0 : Int32).toNatClampNeg (vp_nar .byte (v >>> ((0 : Int32).toInt64 &&& 63)).toInt32.toInt8.toInt32)) (1 : Int32).toNatClampNeg (vp_nar .byte (v >>> ((8 : Int32).toInt64 &&& 63)).toInt32.toInt8.toInt32)) (2 : Int32).toNatClampNeg (vp_nar .byte (v >>> ((16 : Int32).toInt64 &&& 63)).toInt32.toInt8.toInt32)) (3 : Int32).toNatClampNeg (vp_nar .byte (v >>> ((24 : Int32).toInt64 &&& 63)).toInt32.toInt8.toInt32)) (4 : Int32).toNatClampNeg (vp_nar .byte (v >>> ((32 : Int32).toInt64 &&& 63)).toInt32.toInt8.toInt32)) (5 : Int32).toNatClampNeg (vp_nar .byte (v >>> ((40 : Int32).toInt64 &&& 63)).toInt32.toInt8.toInt32)) (6 : Int32).toNatClampNeg (vp_nar .byte (v >>> ((48 : Int32).toInt64 &&& 63)).toInt32.toInt8.toInt32))))] H := hP
                      have hD : va_D A [(m0, .inr (8, [.ref mH, .int 0, .long 0, .int 0, .long 0, .int 0, .int 0, .int 0, .int 0, .int 0, .int 0, .long 0, .int 0, .int 0, .ref mI, .ref mJ, .ref mS, .ref mD, .int 0, .int 0, .int 0, .long 0, .ref mX, .int 6, .int 0, .int 0, .ref mA, .ref mB, .ref mW, .ref mL, .int 0])), (mX, .inl (cB, 2000, .inl (upd (upd (upd (upd (upd (upd (upd (fun _ => 0) (0 : Int32).toNatClampNeg (vp_nar .byte (v >>> ((0 : Int32).toInt64 &&& 63)).toInt32.toInt8.toInt32)) (1 : Int32).toNatClampNeg (vp_nar .byte (v >>> ((8 : Int32).toInt64 &&& 63)).toInt32.toInt8.toInt32)) (2 : Int32).toNatClampNeg (vp_nar .byte (v >>> ((16 : Int32).toInt64 &&& 63)).toInt32.toInt8.toInt32)) (3 : Int32).toNatClampNeg (vp_nar .byte (v >>> ((24 : Int32).toInt64 &&& 63)).toInt32.toInt8.toInt32)) (4 : Int32).toNatClampNeg (vp_nar .byte (v >>> ((32 : Int32).toInt64 &&& 63)).toInt32.toInt8.toInt32)) (5 : Int32).toNatClampNeg (vp_nar .byte (v >>> ((40 : Int32).toInt64 &&& 63)).toInt32.toInt8.toInt32)) (6 : Int32).toNatClampNeg (vp_nar .byte (v >>> ((48 : Int32).toInt64 &&& 63)).toInt32.toInt8.toInt32))))] := hD
                      refine lv_aload_n hx hb dX8_feed_56 rfl (lv_at hl 1 rfl) ?_
                      refine lv_dup hx hb dX8_feed_57 rfl ?_
                      refine va_get (D := D) (ci := 8) (v := .int 6) (C := RX8) (T := TX8) (N := 31) hx hb hts iX8_feed_X8 hown hK hP 0 rfl rfl 23 (by decide) (hts (.fieldLink RX8 243 "TapeCalculatorModel" "textSize" "I") (List.mem_of_getElem? (i := 2) rfl)) (fun _ h9 => h9) rfl dX8_feed_58 ?_
                      refine lv_iconst (v := 1) hx hb dX8_feed_61 (by decide) ?_
                      refine lv_iadd hx hb dX8_feed_62 ?_
                      refine lv_topi (fun x_127 ex_127 => ?_)
                      obtain rfl : x_127 = 7 := ex_127.trans (by decide)
                      refine va_put (D := D) (ci := 8) (v := .int 7) (ty := .int) (C := RX8) (T := TX8) (N := 31) hx hb hts iX8_feed_X8 tyX8 tyX8_ok nmX8 hown hK hP hD hS 0 rfl rfl 23 (by decide) (hts (.fieldLink RX8 243 "TapeCalculatorModel" "textSize" "I") (List.mem_of_getElem? (i := 2) rfl)) (fun _ h9 => h9) rfl (by decide +kernel) rfl rfl (Nat.le_of_ble_eq_true rfl) dX8_feed_63 (fun H locs hP hD hS => ?_)
                      have hP : va_P D vwCl [(m0, .inr (8, [.ref mH, .int 0, .long 0, .int 0, .long 0, .int 0, .int 0, .int 0, .int 0, .int 0, .int 0, .long 0, .int 0, .int 0, .ref mI, .ref mJ, .ref mS, .ref mD, .int 0, .int 0, .int 0, .long 0, .ref mX, .int 7, .int 0, .int 0, .ref mA, .ref mB, .ref mW, .ref mL, .int 0])), (mX, .inl (cB, 2000, .inl (upd (upd (upd (upd (upd (upd (upd (fun _ => 0) (0 : Int32).toNatClampNeg (vp_nar .byte (v >>> ((0 : Int32).toInt64 &&& 63)).toInt32.toInt8.toInt32)) (1 : Int32).toNatClampNeg (vp_nar .byte (v >>> ((8 : Int32).toInt64 &&& 63)).toInt32.toInt8.toInt32)) (2 : Int32).toNatClampNeg (vp_nar .byte (v >>> ((16 : Int32).toInt64 &&& 63)).toInt32.toInt8.toInt32)) (3 : Int32).toNatClampNeg (vp_nar .byte (v >>> ((24 : Int32).toInt64 &&& 63)).toInt32.toInt8.toInt32)) (4 : Int32).toNatClampNeg (vp_nar .byte (v >>> ((32 : Int32).toInt64 &&& 63)).toInt32.toInt8.toInt32)) (5 : Int32).toNatClampNeg (vp_nar .byte (v >>> ((40 : Int32).toInt64 &&& 63)).toInt32.toInt8.toInt32)) (6 : Int32).toNatClampNeg (vp_nar .byte (v >>> ((48 : Int32).toInt64 &&& 63)).toInt32.toInt8.toInt32))))] H := hP
                      have hD : va_D A [(m0, .inr (8, [.ref mH, .int 0, .long 0, .int 0, .long 0, .int 0, .int 0, .int 0, .int 0, .int 0, .int 0, .long 0, .int 0, .int 0, .ref mI, .ref mJ, .ref mS, .ref mD, .int 0, .int 0, .int 0, .long 0, .ref mX, .int 7, .int 0, .int 0, .ref mA, .ref mB, .ref mW, .ref mL, .int 0])), (mX, .inl (cB, 2000, .inl (upd (upd (upd (upd (upd (upd (upd (fun _ => 0) (0 : Int32).toNatClampNeg (vp_nar .byte (v >>> ((0 : Int32).toInt64 &&& 63)).toInt32.toInt8.toInt32)) (1 : Int32).toNatClampNeg (vp_nar .byte (v >>> ((8 : Int32).toInt64 &&& 63)).toInt32.toInt8.toInt32)) (2 : Int32).toNatClampNeg (vp_nar .byte (v >>> ((16 : Int32).toInt64 &&& 63)).toInt32.toInt8.toInt32)) (3 : Int32).toNatClampNeg (vp_nar .byte (v >>> ((24 : Int32).toInt64 &&& 63)).toInt32.toInt8.toInt32)) (4 : Int32).toNatClampNeg (vp_nar .byte (v >>> ((32 : Int32).toInt64 &&& 63)).toInt32.toInt8.toInt32)) (5 : Int32).toNatClampNeg (vp_nar .byte (v >>> ((40 : Int32).toInt64 &&& 63)).toInt32.toInt8.toInt32)) (6 : Int32).toNatClampNeg (vp_nar .byte (v >>> ((48 : Int32).toInt64 &&& 63)).toInt32.toInt8.toInt32))))] := hD
                      refine lv_iinc (v := 7) (lv' := [(4, .int 7), (0, .ref m0), (1, .long v), (3, .int 7)]) hx hb dX8_feed_66 hl (k := 0) rfl (by decide) (by decide) rfl (fun ls hl => ?_)
                      refine lv_goto (tgt := 32) hx hb dX8_feed_69 (by decide) ?_
                      refine lv_iload hx hb dX8_feed_32 (lv_at hl 0 rfl) ?_
                      refine lv_iload_n hx hb dX8_feed_34 rfl (lv_at hl 3 rfl) ?_
                      refine lv_icmp_ge (tgt := 72) hx hb dX8_feed_35 (by decide) (fun c_35_127 => ?_) (fun c_35_127 => ?_)
                      · have t_35_127 := c_35_127
                        try simp only [kb_eq0, kb_ne0, lg_cmp_lt, lg_cmp_le, lg_cmp_gt, lg_cmp_ge, lg_cmp_eq] at t_35_127
                        try simp only [Int32.lt_iff_toInt_lt, Int32.le_iff_toInt_le, ← Int32.toInt_inj, Int64.lt_iff_toInt_lt, Int64.le_iff_toInt_le, ← Int64.toInt_inj, Int32.toInt_toInt64, Int32.reduceToInt, Int64.reduceToInt] at t_35_127
                        refine lv_aload_n hx hb dX8_feed_72 rfl (lv_at hl 1 rfl) ?_
                        refine va_get (D := D) (ci := 8) (v := .int 7) (C := RX8) (T := TX8) (N := 31) hx hb hts iX8_feed_X8 hown hK hP 0 rfl rfl 23 (by decide) (hts (.fieldLink RX8 243 "TapeCalculatorModel" "textSize" "I") (List.mem_of_getElem? (i := 2) rfl)) (fun _ h9 => h9) rfl dX8_feed_73 ?_
                        refine kIret (u := (7, (upd (upd (upd (upd (upd (upd (upd (fun _ => 0) (0 : Int32).toNatClampNeg (vp_nar .byte (v >>> ((0 : Int32).toInt64 &&& 63)).toInt32.toInt8.toInt32)) (1 : Int32).toNatClampNeg (vp_nar .byte (v >>> ((8 : Int32).toInt64 &&& 63)).toInt32.toInt8.toInt32)) (2 : Int32).toNatClampNeg (vp_nar .byte (v >>> ((16 : Int32).toInt64 &&& 63)).toInt32.toInt8.toInt32)) (3 : Int32).toNatClampNeg (vp_nar .byte (v >>> ((24 : Int32).toInt64 &&& 63)).toInt32.toInt8.toInt32)) (4 : Int32).toNatClampNeg (vp_nar .byte (v >>> ((32 : Int32).toInt64 &&& 63)).toInt32.toInt8.toInt32)) (5 : Int32).toNatClampNeg (vp_nar .byte (v >>> ((40 : Int32).toInt64 &&& 63)).toInt32.toInt8.toInt32)) (6 : Int32).toNatClampNeg (vp_nar .byte (v >>> ((48 : Int32).toInt64 &&& 63)).toInt32.toInt8.toInt32)))) hx hb hr rfl hlocks hS dX8_feed_76 ?_ (hP.sub [0, 1] rfl) (hD.sub [0, 1] (by decide) rfl)
                        first
                          | exact (kif_t (by decide)).symm
                          | exact (kif_t (by omega)).symm
                          | exact (kif_f (by omega)).symm
                      · exact absurd (by decide) c_35_127
      · exact absurd (by decide) c_23_105
    · have t_9_103 := c_9_103
      try simp only [kb_eq0, kb_ne0, lg_cmp_lt, lg_cmp_le, lg_cmp_gt, lg_cmp_ge, lg_cmp_eq] at t_9_103
      try simp only [Int32.lt_iff_toInt_lt, Int32.le_iff_toInt_le, ← Int32.toInt_inj, Int64.lt_iff_toInt_lt, Int64.le_iff_toInt_le, ← Int64.toInt_inj, Int32.toInt_toInt64, Int32.reduceToInt, Int64.reduceToInt] at t_9_103
      omega
  · refine lv_iload_n hx hb dX8_feed_0 rfl (lv_at hl 2 rfl) ?_
    refine lv_i2l hx hb dX8_feed_1 rfl ?_
    refine lv_topl (fun x_129 ex_129 => ?_)
    obtain rfl : x_129 = 8 := ex_129.trans (by decide)
    refine lv_lconst (v := 1) hx hb dX8_feed_2 (by decide) ?_
    refine lv_ldc2 (v := 8) hx hb hown (hts (.constantLong RX8 241 (8)) (List.mem_of_getElem? (i := 1) rfl)) dX8_feed_3 ?_
    refine kCallI (wr := [(m0, .inr (8, [.ref mH, .int 0, .long 0, .int 0, .long 0, .int 0, .int 0, .int 0, .int 0, .int 0, .int 0, .long 0, .int 0, .int 0, .ref mI, .ref mJ, .ref mS, .ref mD, .int 0, .int 0, .int 0, .long 0, .ref mX, .int 0, .int 0, .int 0, .ref mA, .ref mB, .ref mW, .ref mL, .int 0])), (mX, .inl (cB, 2000, .inl (fun _ => 0)))]) (va_runS (As := [.long 8, .long 1, .long 8]) (rest := []) ⟨hx, hb, hml, hown, hts⟩ (r_in l D cI cL cB cZ cT _ 8 1 8) (va_cwS 3 hts gX8_feed_X8_in rfl rfl rfl (by decide +kernel) ⟨Nat.le_of_ble_eq_true rfl, Nat.le_of_ble_eq_true rfl⟩) (kPreS hG hP hD [] rfl (by decide)) rfl rfl hl.1 rfl (lv_room (Nat.le_of_ble_eq_true rfl)) dX8_feed_6 ⟨Nat.le_of_ble_eq_true rfl, Nat.le_of_ble_eq_true rfl⟩) hA hP hD hS [] [0, 1] rfl rfl (by decide) (by decide) (fun r_130 u_r_130 H locs wr_130 hP hD hS => ?_)
    have hP : va_P D vwCl [(m0, .inr (8, [.ref mH, .int 0, .long 0, .int 0, .long 0, .int 0, .int 0, .int 0, .int 0, .int 0, .int 0, .long 0, .int 0, .int 0, .ref mI, .ref mJ, .ref mS, .ref mD, .int 0, .int 0, .int 0, .long 0, .ref mX, .int 0, .int 0, .int 0, .ref mA, .ref mB, .ref mW, .ref mL, .int 0])), (mX, .inl (cB, 2000, .inl (fun _ => 0)))] H := hP
    have hD : va_D A [(m0, .inr (8, [.ref mH, .int 0, .long 0, .int 0, .long 0, .int 0, .int 0, .int 0, .int 0, .int 0, .int 0, .long 0, .int 0, .int 0, .ref mI, .ref mJ, .ref mS, .ref mD, .int 0, .int 0, .int 0, .long 0, .ref mX, .int 0, .int 0, .int 0, .ref mA, .ref mB, .ref mW, .ref mL, .int 0])), (mX, .inl (cB, 2000, .inl (fun _ => 0)))] := hD
    try dsimp only at wr_130
    subst wr_130
    refine lv_if_ne (tgt := 14) hx hb dX8_feed_9 (by decide) (fun c_9_130 => ?_) (fun c_9_130 => ?_)
    · have t_9_130 := c_9_130
      try simp only [kb_eq0, kb_ne0, lg_cmp_lt, lg_cmp_le, lg_cmp_gt, lg_cmp_ge, lg_cmp_eq] at t_9_130
      try simp only [Int32.lt_iff_toInt_lt, Int32.le_iff_toInt_le, ← Int32.toInt_inj, Int64.lt_iff_toInt_lt, Int64.le_iff_toInt_le, ← Int64.toInt_inj, Int32.toInt_toInt64, Int32.reduceToInt, Int64.reduceToInt] at t_9_130
      refine lv_aload_n hx hb dX8_feed_14 rfl (lv_at hl 0 rfl) ?_
      refine va_get (D := D) (ci := 8) (v := .int 0) (C := RX8) (T := TX8) (N := 31) hx hb hts iX8_feed_X8 hown hK hP 0 rfl rfl 23 (by decide) (hts (.fieldLink RX8 243 "TapeCalculatorModel" "textSize" "I") (List.mem_of_getElem? (i := 2) rfl)) (fun _ h9 => h9) rfl dX8_feed_15 ?_
      refine lv_iload_n hx hb dX8_feed_18 rfl (lv_at hl 2 rfl) ?_
      refine lv_iadd hx hb dX8_feed_19 ?_
      refine lv_topi (fun x_132 ex_132 => ?_)
      obtain rfl : x_132 = 8 := ex_132.trans (by decide)
      refine lv_sipush (v := 2000) hx hb dX8_feed_20 (by decide) ?_
      refine lv_icmp_le (tgt := 29) hx hb dX8_feed_23 (by decide) (fun c_23_132 => ?_) (fun c_23_132 => ?_)
      · have t_23_132 := c_23_132
        try simp only [kb_eq0, kb_ne0, lg_cmp_lt, lg_cmp_le, lg_cmp_gt, lg_cmp_ge, lg_cmp_eq] at t_23_132
        try simp only [Int32.lt_iff_toInt_lt, Int32.le_iff_toInt_le, ← Int32.toInt_inj, Int64.lt_iff_toInt_lt, Int64.le_iff_toInt_le, ← Int64.toInt_inj, Int32.toInt_toInt64, Int32.reduceToInt, Int64.reduceToInt] at t_23_132
        refine lv_iconst (v := 0) hx hb dX8_feed_29 (by decide) ?_
        refine lv_istore (lv' := [(4, .int 0), (0, .ref m0), (1, .long v), (3, .int 8)]) hx hb dX8_feed_30 hl (by decide) rfl (fun ls hl => ?_)
        refine lv_iload hx hb dX8_feed_32 (lv_at hl 0 rfl) ?_
        refine lv_iload_n hx hb dX8_feed_34 rfl (lv_at hl 3 rfl) ?_
        refine lv_icmp_ge (tgt := 72) hx hb dX8_feed_35 (by decide) (fun c_35_133 => ?_) (fun c_35_133 => ?_)
        · exact absurd c_35_133 (by decide)
        · have t_35_133 := c_35_133
          try simp only [kb_eq0, kb_ne0, lg_cmp_lt, lg_cmp_le, lg_cmp_gt, lg_cmp_ge, lg_cmp_eq] at t_35_133
          try simp only [Int32.lt_iff_toInt_lt, Int32.le_iff_toInt_le, ← Int32.toInt_inj, Int64.lt_iff_toInt_lt, Int64.le_iff_toInt_le, ← Int64.toInt_inj, Int32.toInt_toInt64, Int32.reduceToInt, Int64.reduceToInt] at t_35_133
          refine lv_aload_n hx hb dX8_feed_38 rfl (lv_at hl 1 rfl) ?_
          refine va_get (D := D) (ci := 8) (v := .ref mX) (C := RX8) (T := TX8) (N := 31) hx hb hts iX8_feed_X8 hown hK hP 0 rfl rfl 22 (by decide) (hts (.fieldLink RX8 26 "TapeCalculatorModel" "text" "[B") (List.mem_of_getElem? (i := 3) rfl)) (fun _ h9 => h9) rfl dX8_feed_39 ?_
          refine lv_aload_n hx hb dX8_feed_42 rfl (lv_at hl 1 rfl) ?_
          refine va_get (D := D) (ci := 8) (v := .int 0) (C := RX8) (T := TX8) (N := 31) hx hb hts iX8_feed_X8 hown hK hP 0 rfl rfl 23 (by decide) (hts (.fieldLink RX8 243 "TapeCalculatorModel" "textSize" "I") (List.mem_of_getElem? (i := 2) rfl)) (fun _ h9 => h9) rfl dX8_feed_43 ?_
          refine lv_lload_n hx hb dX8_feed_46 rfl (lv_at hl 2 rfl) ?_
          refine lv_bipush (v := 8) hx hb dX8_feed_47 (by decide) ?_
          refine lv_iload hx hb dX8_feed_49 (lv_at hl 0 rfl) ?_
          refine lv_imul hx hb dX8_feed_51 ?_
          refine lv_topi (fun x_135 ex_135 => ?_)
          obtain rfl : x_135 = 0 := ex_135.trans (by decide)
          refine lv_lshr hx hb dX8_feed_52 rfl ?_
          refine lv_l2i hx hb dX8_feed_53 rfl ?_
          refine lv_i2b hx hb dX8_feed_54 rfl ?_
          refine va_bast hx hb hK hP hD hS 1 2 rfl rfl (vp_in_iff.mpr (by decide)) dX8_feed_55 (fun H locs hP hD hS => ?_)
          have hP : va_P D vwCl [(m0, .inr (8, [.ref mH, .int 0, .long 0, .int 0, .long 0, .int 0, .int 0, .int 0, .int 0, .int 0, .int 0, .long 0, .int 0, .int 0, .ref mI, .ref mJ, .ref mS, .ref mD, .int 0, .int 0, .int 0, .long 0, .ref mX, .int 0, .int 0, .int 0, .ref mA, .ref mB, .ref mW, .ref mL, .int 0])), (mX, .inl (cB, 2000, .inl (upd (fun _ => 0) (0 : Int32).toNatClampNeg (vp_nar .byte (v >>> ((0 : Int32).toInt64 &&& 63)).toInt32.toInt8.toInt32))))] H := hP
          have hD : va_D A [(m0, .inr (8, [.ref mH, .int 0, .long 0, .int 0, .long 0, .int 0, .int 0, .int 0, .int 0, .int 0, .int 0, .long 0, .int 0, .int 0, .ref mI, .ref mJ, .ref mS, .ref mD, .int 0, .int 0, .int 0, .long 0, .ref mX, .int 0, .int 0, .int 0, .ref mA, .ref mB, .ref mW, .ref mL, .int 0])), (mX, .inl (cB, 2000, .inl (upd (fun _ => 0) (0 : Int32).toNatClampNeg (vp_nar .byte (v >>> ((0 : Int32).toInt64 &&& 63)).toInt32.toInt8.toInt32))))] := hD
          refine lv_aload_n hx hb dX8_feed_56 rfl (lv_at hl 1 rfl) ?_
          refine lv_dup hx hb dX8_feed_57 rfl ?_
          refine va_get (D := D) (ci := 8) (v := .int 0) (C := RX8) (T := TX8) (N := 31) hx hb hts iX8_feed_X8 hown hK hP 0 rfl rfl 23 (by decide) (hts (.fieldLink RX8 243 "TapeCalculatorModel" "textSize" "I") (List.mem_of_getElem? (i := 2) rfl)) (fun _ h9 => h9) rfl dX8_feed_58 ?_
          refine lv_iconst (v := 1) hx hb dX8_feed_61 (by decide) ?_
          refine lv_iadd hx hb dX8_feed_62 ?_
          refine lv_topi (fun x_136 ex_136 => ?_)
          obtain rfl : x_136 = 1 := ex_136.trans (by decide)
          refine va_put (D := D) (ci := 8) (v := .int 1) (ty := .int) (C := RX8) (T := TX8) (N := 31) hx hb hts iX8_feed_X8 tyX8 tyX8_ok nmX8 hown hK hP hD hS 0 rfl rfl 23 (by decide) (hts (.fieldLink RX8 243 "TapeCalculatorModel" "textSize" "I") (List.mem_of_getElem? (i := 2) rfl)) (fun _ h9 => h9) rfl (by decide +kernel) rfl rfl (Nat.le_of_ble_eq_true rfl) dX8_feed_63 (fun H locs hP hD hS => ?_)
          have hP : va_P D vwCl [(m0, .inr (8, [.ref mH, .int 0, .long 0, .int 0, .long 0, .int 0, .int 0, .int 0, .int 0, .int 0, .int 0, .long 0, .int 0, .int 0, .ref mI, .ref mJ, .ref mS, .ref mD, .int 0, .int 0, .int 0, .long 0, .ref mX, .int 1, .int 0, .int 0, .ref mA, .ref mB, .ref mW, .ref mL, .int 0])), (mX, .inl (cB, 2000, .inl (upd (fun _ => 0) (0 : Int32).toNatClampNeg (vp_nar .byte (v >>> ((0 : Int32).toInt64 &&& 63)).toInt32.toInt8.toInt32))))] H := hP
          have hD : va_D A [(m0, .inr (8, [.ref mH, .int 0, .long 0, .int 0, .long 0, .int 0, .int 0, .int 0, .int 0, .int 0, .int 0, .long 0, .int 0, .int 0, .ref mI, .ref mJ, .ref mS, .ref mD, .int 0, .int 0, .int 0, .long 0, .ref mX, .int 1, .int 0, .int 0, .ref mA, .ref mB, .ref mW, .ref mL, .int 0])), (mX, .inl (cB, 2000, .inl (upd (fun _ => 0) (0 : Int32).toNatClampNeg (vp_nar .byte (v >>> ((0 : Int32).toInt64 &&& 63)).toInt32.toInt8.toInt32))))] := hD
          refine lv_iinc (v := 1) (lv' := [(4, .int 1), (0, .ref m0), (1, .long v), (3, .int 8)]) hx hb dX8_feed_66 hl (k := 0) rfl (by decide) (by decide) rfl (fun ls hl => ?_)
          refine lv_goto (tgt := 32) hx hb dX8_feed_69 (by decide) ?_
          refine lv_iload hx hb dX8_feed_32 (lv_at hl 0 rfl) ?_
          refine lv_iload_n hx hb dX8_feed_34 rfl (lv_at hl 3 rfl) ?_
          refine lv_icmp_ge (tgt := 72) hx hb dX8_feed_35 (by decide) (fun c_35_136 => ?_) (fun c_35_136 => ?_)
          · exact absurd c_35_136 (by decide)
          · have t_35_136 := c_35_136
            try simp only [kb_eq0, kb_ne0, lg_cmp_lt, lg_cmp_le, lg_cmp_gt, lg_cmp_ge, lg_cmp_eq] at t_35_136
            try simp only [Int32.lt_iff_toInt_lt, Int32.le_iff_toInt_le, ← Int32.toInt_inj, Int64.lt_iff_toInt_lt, Int64.le_iff_toInt_le, ← Int64.toInt_inj, Int32.toInt_toInt64, Int32.reduceToInt, Int64.reduceToInt] at t_35_136
            refine lv_aload_n hx hb dX8_feed_38 rfl (lv_at hl 1 rfl) ?_
            refine va_get (D := D) (ci := 8) (v := .ref mX) (C := RX8) (T := TX8) (N := 31) hx hb hts iX8_feed_X8 hown hK hP 0 rfl rfl 22 (by decide) (hts (.fieldLink RX8 26 "TapeCalculatorModel" "text" "[B") (List.mem_of_getElem? (i := 3) rfl)) (fun _ h9 => h9) rfl dX8_feed_39 ?_
            refine lv_aload_n hx hb dX8_feed_42 rfl (lv_at hl 1 rfl) ?_
            refine va_get (D := D) (ci := 8) (v := .int 1) (C := RX8) (T := TX8) (N := 31) hx hb hts iX8_feed_X8 hown hK hP 0 rfl rfl 23 (by decide) (hts (.fieldLink RX8 243 "TapeCalculatorModel" "textSize" "I") (List.mem_of_getElem? (i := 2) rfl)) (fun _ h9 => h9) rfl dX8_feed_43 ?_
            refine lv_lload_n hx hb dX8_feed_46 rfl (lv_at hl 2 rfl) ?_
            refine lv_bipush (v := 8) hx hb dX8_feed_47 (by decide) ?_
            refine lv_iload hx hb dX8_feed_49 (lv_at hl 0 rfl) ?_
            refine lv_imul hx hb dX8_feed_51 ?_
            refine lv_topi (fun x_138 ex_138 => ?_)
            obtain rfl : x_138 = 8 := ex_138.trans (by decide)
            refine lv_lshr hx hb dX8_feed_52 rfl ?_
            refine lv_l2i hx hb dX8_feed_53 rfl ?_
            refine lv_i2b hx hb dX8_feed_54 rfl ?_
            refine va_bast hx hb hK hP hD hS 1 2 rfl rfl (vp_in_iff.mpr (by decide)) dX8_feed_55 (fun H locs hP hD hS => ?_)
            have hP : va_P D vwCl [(m0, .inr (8, [.ref mH, .int 0, .long 0, .int 0, .long 0, .int 0, .int 0, .int 0, .int 0, .int 0, .int 0, .long 0, .int 0, .int 0, .ref mI, .ref mJ, .ref mS, .ref mD, .int 0, .int 0, .int 0, .long 0, .ref mX, .int 1, .int 0, .int 0, .ref mA, .ref mB, .ref mW, .ref mL, .int 0])), (mX, .inl (cB, 2000, .inl (upd (upd (fun _ => 0) (0 : Int32).toNatClampNeg (vp_nar .byte (v >>> ((0 : Int32).toInt64 &&& 63)).toInt32.toInt8.toInt32)) (1 : Int32).toNatClampNeg (vp_nar .byte (v >>> ((8 : Int32).toInt64 &&& 63)).toInt32.toInt8.toInt32))))] H := hP
            have hD : va_D A [(m0, .inr (8, [.ref mH, .int 0, .long 0, .int 0, .long 0, .int 0, .int 0, .int 0, .int 0, .int 0, .int 0, .long 0, .int 0, .int 0, .ref mI, .ref mJ, .ref mS, .ref mD, .int 0, .int 0, .int 0, .long 0, .ref mX, .int 1, .int 0, .int 0, .ref mA, .ref mB, .ref mW, .ref mL, .int 0])), (mX, .inl (cB, 2000, .inl (upd (upd (fun _ => 0) (0 : Int32).toNatClampNeg (vp_nar .byte (v >>> ((0 : Int32).toInt64 &&& 63)).toInt32.toInt8.toInt32)) (1 : Int32).toNatClampNeg (vp_nar .byte (v >>> ((8 : Int32).toInt64 &&& 63)).toInt32.toInt8.toInt32))))] := hD
            refine lv_aload_n hx hb dX8_feed_56 rfl (lv_at hl 1 rfl) ?_
            refine lv_dup hx hb dX8_feed_57 rfl ?_
            refine va_get (D := D) (ci := 8) (v := .int 1) (C := RX8) (T := TX8) (N := 31) hx hb hts iX8_feed_X8 hown hK hP 0 rfl rfl 23 (by decide) (hts (.fieldLink RX8 243 "TapeCalculatorModel" "textSize" "I") (List.mem_of_getElem? (i := 2) rfl)) (fun _ h9 => h9) rfl dX8_feed_58 ?_
            refine lv_iconst (v := 1) hx hb dX8_feed_61 (by decide) ?_
            refine lv_iadd hx hb dX8_feed_62 ?_
            refine lv_topi (fun x_139 ex_139 => ?_)
            obtain rfl : x_139 = 2 := ex_139.trans (by decide)
            refine va_put (D := D) (ci := 8) (v := .int 2) (ty := .int) (C := RX8) (T := TX8) (N := 31) hx hb hts iX8_feed_X8 tyX8 tyX8_ok nmX8 hown hK hP hD hS 0 rfl rfl 23 (by decide) (hts (.fieldLink RX8 243 "TapeCalculatorModel" "textSize" "I") (List.mem_of_getElem? (i := 2) rfl)) (fun _ h9 => h9) rfl (by decide +kernel) rfl rfl (Nat.le_of_ble_eq_true rfl) dX8_feed_63 (fun H locs hP hD hS => ?_)
            have hP : va_P D vwCl [(m0, .inr (8, [.ref mH, .int 0, .long 0, .int 0, .long 0, .int 0, .int 0, .int 0, .int 0, .int 0, .int 0, .long 0, .int 0, .int 0, .ref mI, .ref mJ, .ref mS, .ref mD, .int 0, .int 0, .int 0, .long 0, .ref mX, .int 2, .int 0, .int 0, .ref mA, .ref mB, .ref mW, .ref mL, .int 0])), (mX, .inl (cB, 2000, .inl (upd (upd (fun _ => 0) (0 : Int32).toNatClampNeg (vp_nar .byte (v >>> ((0 : Int32).toInt64 &&& 63)).toInt32.toInt8.toInt32)) (1 : Int32).toNatClampNeg (vp_nar .byte (v >>> ((8 : Int32).toInt64 &&& 63)).toInt32.toInt8.toInt32))))] H := hP
            have hD : va_D A [(m0, .inr (8, [.ref mH, .int 0, .long 0, .int 0, .long 0, .int 0, .int 0, .int 0, .int 0, .int 0, .int 0, .long 0, .int 0, .int 0, .ref mI, .ref mJ, .ref mS, .ref mD, .int 0, .int 0, .int 0, .long 0, .ref mX, .int 2, .int 0, .int 0, .ref mA, .ref mB, .ref mW, .ref mL, .int 0])), (mX, .inl (cB, 2000, .inl (upd (upd (fun _ => 0) (0 : Int32).toNatClampNeg (vp_nar .byte (v >>> ((0 : Int32).toInt64 &&& 63)).toInt32.toInt8.toInt32)) (1 : Int32).toNatClampNeg (vp_nar .byte (v >>> ((8 : Int32).toInt64 &&& 63)).toInt32.toInt8.toInt32))))] := hD
            refine lv_iinc (v := 2) (lv' := [(4, .int 2), (0, .ref m0), (1, .long v), (3, .int 8)]) hx hb dX8_feed_66 hl (k := 0) rfl (by decide) (by decide) rfl (fun ls hl => ?_)
            refine lv_goto (tgt := 32) hx hb dX8_feed_69 (by decide) ?_
            refine lv_iload hx hb dX8_feed_32 (lv_at hl 0 rfl) ?_
            refine lv_iload_n hx hb dX8_feed_34 rfl (lv_at hl 3 rfl) ?_
            refine lv_icmp_ge (tgt := 72) hx hb dX8_feed_35 (by decide) (fun c_35_139 => ?_) (fun c_35_139 => ?_)
            · exact absurd c_35_139 (by decide)
            · have t_35_139 := c_35_139
              try simp only [kb_eq0, kb_ne0, lg_cmp_lt, lg_cmp_le, lg_cmp_gt, lg_cmp_ge, lg_cmp_eq] at t_35_139
              try simp only [Int32.lt_iff_toInt_lt, Int32.le_iff_toInt_le, ← Int32.toInt_inj, Int64.lt_iff_toInt_lt, Int64.le_iff_toInt_le, ← Int64.toInt_inj, Int32.toInt_toInt64, Int32.reduceToInt, Int64.reduceToInt] at t_35_139
              refine lv_aload_n hx hb dX8_feed_38 rfl (lv_at hl 1 rfl) ?_
              refine va_get (D := D) (ci := 8) (v := .ref mX) (C := RX8) (T := TX8) (N := 31) hx hb hts iX8_feed_X8 hown hK hP 0 rfl rfl 22 (by decide) (hts (.fieldLink RX8 26 "TapeCalculatorModel" "text" "[B") (List.mem_of_getElem? (i := 3) rfl)) (fun _ h9 => h9) rfl dX8_feed_39 ?_
              refine lv_aload_n hx hb dX8_feed_42 rfl (lv_at hl 1 rfl) ?_
              refine va_get (D := D) (ci := 8) (v := .int 2) (C := RX8) (T := TX8) (N := 31) hx hb hts iX8_feed_X8 hown hK hP 0 rfl rfl 23 (by decide) (hts (.fieldLink RX8 243 "TapeCalculatorModel" "textSize" "I") (List.mem_of_getElem? (i := 2) rfl)) (fun _ h9 => h9) rfl dX8_feed_43 ?_
              refine lv_lload_n hx hb dX8_feed_46 rfl (lv_at hl 2 rfl) ?_
              refine lv_bipush (v := 8) hx hb dX8_feed_47 (by decide) ?_
              refine lv_iload hx hb dX8_feed_49 (lv_at hl 0 rfl) ?_
              refine lv_imul hx hb dX8_feed_51 ?_
              refine lv_topi (fun x_141 ex_141 => ?_)
              obtain rfl : x_141 = 16 := ex_141.trans (by decide)
              refine lv_lshr hx hb dX8_feed_52 rfl ?_
              refine lv_l2i hx hb dX8_feed_53 rfl ?_
              refine lv_i2b hx hb dX8_feed_54 rfl ?_
              refine va_bast hx hb hK hP hD hS 1 2 rfl rfl (vp_in_iff.mpr (by decide)) dX8_feed_55 (fun H locs hP hD hS => ?_)
              have hP : va_P D vwCl [(m0, .inr (8, [.ref mH, .int 0, .long 0, .int 0, .long 0, .int 0, .int 0, .int 0, .int 0, .int 0, .int 0, .long 0, .int 0, .int 0, .ref mI, .ref mJ, .ref mS, .ref mD, .int 0, .int 0, .int 0, .long 0, .ref mX, .int 2, .int 0, .int 0, .ref mA, .ref mB, .ref mW, .ref mL, .int 0])), (mX, .inl (cB, 2000, .inl (upd (upd (upd (fun _ => 0) (0 : Int32).toNatClampNeg (vp_nar .byte (v >>> ((0 : Int32).toInt64 &&& 63)).toInt32.toInt8.toInt32)) (1 : Int32).toNatClampNeg (vp_nar .byte (v >>> ((8 : Int32).toInt64 &&& 63)).toInt32.toInt8.toInt32)) (2 : Int32).toNatClampNeg (vp_nar .byte (v >>> ((16 : Int32).toInt64 &&& 63)).toInt32.toInt8.toInt32))))] H := hP
              have hD : va_D A [(m0, .inr (8, [.ref mH, .int 0, .long 0, .int 0, .long 0, .int 0, .int 0, .int 0, .int 0, .int 0, .int 0, .long 0, .int 0, .int 0, .ref mI, .ref mJ, .ref mS, .ref mD, .int 0, .int 0, .int 0, .long 0, .ref mX, .int 2, .int 0, .int 0, .ref mA, .ref mB, .ref mW, .ref mL, .int 0])), (mX, .inl (cB, 2000, .inl (upd (upd (upd (fun _ => 0) (0 : Int32).toNatClampNeg (vp_nar .byte (v >>> ((0 : Int32).toInt64 &&& 63)).toInt32.toInt8.toInt32)) (1 : Int32).toNatClampNeg (vp_nar .byte (v >>> ((8 : Int32).toInt64 &&& 63)).toInt32.toInt8.toInt32)) (2 : Int32).toNatClampNeg (vp_nar .byte (v >>> ((16 : Int32).toInt64 &&& 63)).toInt32.toInt8.toInt32))))] := hD
              refine lv_aload_n hx hb dX8_feed_56 rfl (lv_at hl 1 rfl) ?_
              refine lv_dup hx hb dX8_feed_57 rfl ?_
              refine va_get (D := D) (ci := 8) (v := .int 2) (C := RX8) (T := TX8) (N := 31) hx hb hts iX8_feed_X8 hown hK hP 0 rfl rfl 23 (by decide) (hts (.fieldLink RX8 243 "TapeCalculatorModel" "textSize" "I") (List.mem_of_getElem? (i := 2) rfl)) (fun _ h9 => h9) rfl dX8_feed_58 ?_
              refine lv_iconst (v := 1) hx hb dX8_feed_61 (by decide) ?_
              refine lv_iadd hx hb dX8_feed_62 ?_
              refine lv_topi (fun x_142 ex_142 => ?_)
              obtain rfl : x_142 = 3 := ex_142.trans (by decide)
              refine va_put (D := D) (ci := 8) (v := .int 3) (ty := .int) (C := RX8) (T := TX8) (N := 31) hx hb hts iX8_feed_X8 tyX8 tyX8_ok nmX8 hown hK hP hD hS 0 rfl rfl 23 (by decide) (hts (.fieldLink RX8 243 "TapeCalculatorModel" "textSize" "I") (List.mem_of_getElem? (i := 2) rfl)) (fun _ h9 => h9) rfl (by decide +kernel) rfl rfl (Nat.le_of_ble_eq_true rfl) dX8_feed_63 (fun H locs hP hD hS => ?_)
              have hP : va_P D vwCl [(m0, .inr (8, [.ref mH, .int 0, .long 0, .int 0, .long 0, .int 0, .int 0, .int 0, .int 0, .int 0, .int 0, .long 0, .int 0, .int 0, .ref mI, .ref mJ, .ref mS, .ref mD, .int 0, .int 0, .int 0, .long 0, .ref mX, .int 3, .int 0, .int 0, .ref mA, .ref mB, .ref mW, .ref mL, .int 0])), (mX, .inl (cB, 2000, .inl (upd (upd (upd (fun _ => 0) (0 : Int32).toNatClampNeg (vp_nar .byte (v >>> ((0 : Int32).toInt64 &&& 63)).toInt32.toInt8.toInt32)) (1 : Int32).toNatClampNeg (vp_nar .byte (v >>> ((8 : Int32).toInt64 &&& 63)).toInt32.toInt8.toInt32)) (2 : Int32).toNatClampNeg (vp_nar .byte (v >>> ((16 : Int32).toInt64 &&& 63)).toInt32.toInt8.toInt32))))] H := hP
              have hD : va_D A [(m0, .inr (8, [.ref mH, .int 0, .long 0, .int 0, .long 0, .int 0, .int 0, .int 0, .int 0, .int 0, .int 0, .long 0, .int 0, .int 0, .ref mI, .ref mJ, .ref mS, .ref mD, .int 0, .int 0, .int 0, .long 0, .ref mX, .int 3, .int 0, .int 0, .ref mA, .ref mB, .ref mW, .ref mL, .int 0])), (mX, .inl (cB, 2000, .inl (upd (upd (upd (fun _ => 0) (0 : Int32).toNatClampNeg (vp_nar .byte (v >>> ((0 : Int32).toInt64 &&& 63)).toInt32.toInt8.toInt32)) (1 : Int32).toNatClampNeg (vp_nar .byte (v >>> ((8 : Int32).toInt64 &&& 63)).toInt32.toInt8.toInt32)) (2 : Int32).toNatClampNeg (vp_nar .byte (v >>> ((16 : Int32).toInt64 &&& 63)).toInt32.toInt8.toInt32))))] := hD
              refine lv_iinc (v := 3) (lv' := [(4, .int 3), (0, .ref m0), (1, .long v), (3, .int 8)]) hx hb dX8_feed_66 hl (k := 0) rfl (by decide) (by decide) rfl (fun ls hl => ?_)
              refine lv_goto (tgt := 32) hx hb dX8_feed_69 (by decide) ?_
              refine lv_iload hx hb dX8_feed_32 (lv_at hl 0 rfl) ?_
              refine lv_iload_n hx hb dX8_feed_34 rfl (lv_at hl 3 rfl) ?_
              refine lv_icmp_ge (tgt := 72) hx hb dX8_feed_35 (by decide) (fun c_35_142 => ?_) (fun c_35_142 => ?_)
              · exact absurd c_35_142 (by decide)
              · have t_35_142 := c_35_142
                try simp only [kb_eq0, kb_ne0, lg_cmp_lt, lg_cmp_le, lg_cmp_gt, lg_cmp_ge, lg_cmp_eq] at t_35_142
                try simp only [Int32.lt_iff_toInt_lt, Int32.le_iff_toInt_le, ← Int32.toInt_inj, Int64.lt_iff_toInt_lt, Int64.le_iff_toInt_le, ← Int64.toInt_inj, Int32.toInt_toInt64, Int32.reduceToInt, Int64.reduceToInt] at t_35_142
                refine lv_aload_n hx hb dX8_feed_38 rfl (lv_at hl 1 rfl) ?_
                refine va_get (D := D) (ci := 8) (v := .ref mX) (C := RX8) (T := TX8) (N := 31) hx hb hts iX8_feed_X8 hown hK hP 0 rfl rfl 22 (by decide) (hts (.fieldLink RX8 26 "TapeCalculatorModel" "text" "[B") (List.mem_of_getElem? (i := 3) rfl)) (fun _ h9 => h9) rfl dX8_feed_39 ?_
                refine lv_aload_n hx hb dX8_feed_42 rfl (lv_at hl 1 rfl) ?_
                refine va_get (D := D) (ci := 8) (v := .int 3) (C := RX8) (T := TX8) (N := 31) hx hb hts iX8_feed_X8 hown hK hP 0 rfl rfl 23 (by decide) (hts (.fieldLink RX8 243 "TapeCalculatorModel" "textSize" "I") (List.mem_of_getElem? (i := 2) rfl)) (fun _ h9 => h9) rfl dX8_feed_43 ?_
                refine lv_lload_n hx hb dX8_feed_46 rfl (lv_at hl 2 rfl) ?_
                refine lv_bipush (v := 8) hx hb dX8_feed_47 (by decide) ?_
                refine lv_iload hx hb dX8_feed_49 (lv_at hl 0 rfl) ?_
                refine lv_imul hx hb dX8_feed_51 ?_
                refine lv_topi (fun x_144 ex_144 => ?_)
                obtain rfl : x_144 = 24 := ex_144.trans (by decide)
                refine lv_lshr hx hb dX8_feed_52 rfl ?_
                refine lv_l2i hx hb dX8_feed_53 rfl ?_
                refine lv_i2b hx hb dX8_feed_54 rfl ?_
                refine va_bast hx hb hK hP hD hS 1 2 rfl rfl (vp_in_iff.mpr (by decide)) dX8_feed_55 (fun H locs hP hD hS => ?_)
                have hP : va_P D vwCl [(m0, .inr (8, [.ref mH, .int 0, .long 0, .int 0, .long 0, .int 0, .int 0, .int 0, .int 0, .int 0, .int 0, .long 0, .int 0, .int 0, .ref mI, .ref mJ, .ref mS, .ref mD, .int 0, .int 0, .int 0, .long 0, .ref mX, .int 3, .int 0, .int 0, .ref mA, .ref mB, .ref mW, .ref mL, .int 0])), (mX, .inl (cB, 2000, .inl (upd (upd (upd (upd (fun _ => 0) (0 : Int32).toNatClampNeg (vp_nar .byte (v >>> ((0 : Int32).toInt64 &&& 63)).toInt32.toInt8.toInt32)) (1 : Int32).toNatClampNeg (vp_nar .byte (v >>> ((8 : Int32).toInt64 &&& 63)).toInt32.toInt8.toInt32)) (2 : Int32).toNatClampNeg (vp_nar .byte (v >>> ((16 : Int32).toInt64 &&& 63)).toInt32.toInt8.toInt32)) (3 : Int32).toNatClampNeg (vp_nar .byte (v >>> ((24 : Int32).toInt64 &&& 63)).toInt32.toInt8.toInt32))))] H := hP
                have hD : va_D A [(m0, .inr (8, [.ref mH, .int 0, .long 0, .int 0, .long 0, .int 0, .int 0, .int 0, .int 0, .int 0, .int 0, .long 0, .int 0, .int 0, .ref mI, .ref mJ, .ref mS, .ref mD, .int 0, .int 0, .int 0, .long 0, .ref mX, .int 3, .int 0, .int 0, .ref mA, .ref mB, .ref mW, .ref mL, .int 0])), (mX, .inl (cB, 2000, .inl (upd (upd (upd (upd (fun _ => 0) (0 : Int32).toNatClampNeg (vp_nar .byte (v >>> ((0 : Int32).toInt64 &&& 63)).toInt32.toInt8.toInt32)) (1 : Int32).toNatClampNeg (vp_nar .byte (v >>> ((8 : Int32).toInt64 &&& 63)).toInt32.toInt8.toInt32)) (2 : Int32).toNatClampNeg (vp_nar .byte (v >>> ((16 : Int32).toInt64 &&& 63)).toInt32.toInt8.toInt32)) (3 : Int32).toNatClampNeg (vp_nar .byte (v >>> ((24 : Int32).toInt64 &&& 63)).toInt32.toInt8.toInt32))))] := hD
                refine lv_aload_n hx hb dX8_feed_56 rfl (lv_at hl 1 rfl) ?_
                refine lv_dup hx hb dX8_feed_57 rfl ?_
                refine va_get (D := D) (ci := 8) (v := .int 3) (C := RX8) (T := TX8) (N := 31) hx hb hts iX8_feed_X8 hown hK hP 0 rfl rfl 23 (by decide) (hts (.fieldLink RX8 243 "TapeCalculatorModel" "textSize" "I") (List.mem_of_getElem? (i := 2) rfl)) (fun _ h9 => h9) rfl dX8_feed_58 ?_
                refine lv_iconst (v := 1) hx hb dX8_feed_61 (by decide) ?_
                refine lv_iadd hx hb dX8_feed_62 ?_
                refine lv_topi (fun x_145 ex_145 => ?_)
                obtain rfl : x_145 = 4 := ex_145.trans (by decide)
                refine va_put (D := D) (ci := 8) (v := .int 4) (ty := .int) (C := RX8) (T := TX8) (N := 31) hx hb hts iX8_feed_X8 tyX8 tyX8_ok nmX8 hown hK hP hD hS 0 rfl rfl 23 (by decide) (hts (.fieldLink RX8 243 "TapeCalculatorModel" "textSize" "I") (List.mem_of_getElem? (i := 2) rfl)) (fun _ h9 => h9) rfl (by decide +kernel) rfl rfl (Nat.le_of_ble_eq_true rfl) dX8_feed_63 (fun H locs hP hD hS => ?_)
                have hP : va_P D vwCl [(m0, .inr (8, [.ref mH, .int 0, .long 0, .int 0, .long 0, .int 0, .int 0, .int 0, .int 0, .int 0, .int 0, .long 0, .int 0, .int 0, .ref mI, .ref mJ, .ref mS, .ref mD, .int 0, .int 0, .int 0, .long 0, .ref mX, .int 4, .int 0, .int 0, .ref mA, .ref mB, .ref mW, .ref mL, .int 0])), (mX, .inl (cB, 2000, .inl (upd (upd (upd (upd (fun _ => 0) (0 : Int32).toNatClampNeg (vp_nar .byte (v >>> ((0 : Int32).toInt64 &&& 63)).toInt32.toInt8.toInt32)) (1 : Int32).toNatClampNeg (vp_nar .byte (v >>> ((8 : Int32).toInt64 &&& 63)).toInt32.toInt8.toInt32)) (2 : Int32).toNatClampNeg (vp_nar .byte (v >>> ((16 : Int32).toInt64 &&& 63)).toInt32.toInt8.toInt32)) (3 : Int32).toNatClampNeg (vp_nar .byte (v >>> ((24 : Int32).toInt64 &&& 63)).toInt32.toInt8.toInt32))))] H := hP
                have hD : va_D A [(m0, .inr (8, [.ref mH, .int 0, .long 0, .int 0, .long 0, .int 0, .int 0, .int 0, .int 0, .int 0, .int 0, .long 0, .int 0, .int 0, .ref mI, .ref mJ, .ref mS, .ref mD, .int 0, .int 0, .int 0, .long 0, .ref mX, .int 4, .int 0, .int 0, .ref mA, .ref mB, .ref mW, .ref mL, .int 0])), (mX, .inl (cB, 2000, .inl (upd (upd (upd (upd (fun _ => 0) (0 : Int32).toNatClampNeg (vp_nar .byte (v >>> ((0 : Int32).toInt64 &&& 63)).toInt32.toInt8.toInt32)) (1 : Int32).toNatClampNeg (vp_nar .byte (v >>> ((8 : Int32).toInt64 &&& 63)).toInt32.toInt8.toInt32)) (2 : Int32).toNatClampNeg (vp_nar .byte (v >>> ((16 : Int32).toInt64 &&& 63)).toInt32.toInt8.toInt32)) (3 : Int32).toNatClampNeg (vp_nar .byte (v >>> ((24 : Int32).toInt64 &&& 63)).toInt32.toInt8.toInt32))))] := hD
                refine lv_iinc (v := 4) (lv' := [(4, .int 4), (0, .ref m0), (1, .long v), (3, .int 8)]) hx hb dX8_feed_66 hl (k := 0) rfl (by decide) (by decide) rfl (fun ls hl => ?_)
                refine lv_goto (tgt := 32) hx hb dX8_feed_69 (by decide) ?_
                refine lv_iload hx hb dX8_feed_32 (lv_at hl 0 rfl) ?_
                refine lv_iload_n hx hb dX8_feed_34 rfl (lv_at hl 3 rfl) ?_
                refine lv_icmp_ge (tgt := 72) hx hb dX8_feed_35 (by decide) (fun c_35_145 => ?_) (fun c_35_145 => ?_)
                · exact absurd c_35_145 (by decide)
                · have t_35_145 := c_35_145
                  try simp only [kb_eq0, kb_ne0, lg_cmp_lt, lg_cmp_le, lg_cmp_gt, lg_cmp_ge, lg_cmp_eq] at t_35_145
                  try simp only [Int32.lt_iff_toInt_lt, Int32.le_iff_toInt_le, ← Int32.toInt_inj, Int64.lt_iff_toInt_lt, Int64.le_iff_toInt_le, ← Int64.toInt_inj, Int32.toInt_toInt64, Int32.reduceToInt, Int64.reduceToInt] at t_35_145
                  refine lv_aload_n hx hb dX8_feed_38 rfl (lv_at hl 1 rfl) ?_
                  refine va_get (D := D) (ci := 8) (v := .ref mX) (C := RX8) (T := TX8) (N := 31) hx hb hts iX8_feed_X8 hown hK hP 0 rfl rfl 22 (by decide) (hts (.fieldLink RX8 26 "TapeCalculatorModel" "text" "[B") (List.mem_of_getElem? (i := 3) rfl)) (fun _ h9 => h9) rfl dX8_feed_39 ?_
                  refine lv_aload_n hx hb dX8_feed_42 rfl (lv_at hl 1 rfl) ?_
                  refine va_get (D := D) (ci := 8) (v := .int 4) (C := RX8) (T := TX8) (N := 31) hx hb hts iX8_feed_X8 hown hK hP 0 rfl rfl 23 (by decide) (hts (.fieldLink RX8 243 "TapeCalculatorModel" "textSize" "I") (List.mem_of_getElem? (i := 2) rfl)) (fun _ h9 => h9) rfl dX8_feed_43 ?_
                  refine lv_lload_n hx hb dX8_feed_46 rfl (lv_at hl 2 rfl) ?_
                  refine lv_bipush (v := 8) hx hb dX8_feed_47 (by decide) ?_
                  refine lv_iload hx hb dX8_feed_49 (lv_at hl 0 rfl) ?_
                  refine lv_imul hx hb dX8_feed_51 ?_
                  refine lv_topi (fun x_147 ex_147 => ?_)
                  obtain rfl : x_147 = 32 := ex_147.trans (by decide)
                  refine lv_lshr hx hb dX8_feed_52 rfl ?_
                  refine lv_l2i hx hb dX8_feed_53 rfl ?_
                  refine lv_i2b hx hb dX8_feed_54 rfl ?_
                  refine va_bast hx hb hK hP hD hS 1 2 rfl rfl (vp_in_iff.mpr (by decide)) dX8_feed_55 (fun H locs hP hD hS => ?_)
                  have hP : va_P D vwCl [(m0, .inr (8, [.ref mH, .int 0, .long 0, .int 0, .long 0, .int 0, .int 0, .int 0, .int 0, .int 0, .int 0, .long 0, .int 0, .int 0, .ref mI, .ref mJ, .ref mS, .ref mD, .int 0, .int 0, .int 0, .long 0, .ref mX, .int 4, .int 0, .int 0, .ref mA, .ref mB, .ref mW, .ref mL, .int 0])), (mX, .inl (cB, 2000, .inl (upd (upd (upd (upd (upd (fun _ => 0) (0 : Int32).toNatClampNeg (vp_nar .byte (v >>> ((0 : Int32).toInt64 &&& 63)).toInt32.toInt8.toInt32)) (1 : Int32).toNatClampNeg (vp_nar .byte (v >>> ((8 : Int32).toInt64 &&& 63)).toInt32.toInt8.toInt32)) (2 : Int32).toNatClampNeg (vp_nar .byte (v >>> ((16 : Int32).toInt64 &&& 63)).toInt32.toInt8.toInt32)) (3 : Int32).toNatClampNeg (vp_nar .byte (v >>> ((24 : Int32).toInt64 &&& 63)).toInt32.toInt8.toInt32)) (4 : Int32).toNatClampNeg (vp_nar .byte (v >>> ((32 : Int32).toInt64 &&& 63)).toInt32.toInt8.toInt32))))] H := hP
                  have hD : va_D A [(m0, .inr (8, [.ref mH, .int 0, .long 0, .int 0, .long 0, .int 0, .int 0, .int 0, .int 0, .int 0, .int 0, .long 0, .int 0, .int 0, .ref mI, .ref mJ, .ref mS, .ref mD, .int 0, .int 0, .int 0, .long 0, .ref mX, .int 4, .int 0, .int 0, .ref mA, .ref mB, .ref mW, .ref mL, .int 0])), (mX, .inl (cB, 2000, .inl (upd (upd (upd (upd (upd (fun _ => 0) (0 : Int32).toNatClampNeg (vp_nar .byte (v >>> ((0 : Int32).toInt64 &&& 63)).toInt32.toInt8.toInt32)) (1 : Int32).toNatClampNeg (vp_nar .byte (v >>> ((8 : Int32).toInt64 &&& 63)).toInt32.toInt8.toInt32)) (2 : Int32).toNatClampNeg (vp_nar .byte (v >>> ((16 : Int32).toInt64 &&& 63)).toInt32.toInt8.toInt32)) (3 : Int32).toNatClampNeg (vp_nar .byte (v >>> ((24 : Int32).toInt64 &&& 63)).toInt32.toInt8.toInt32)) (4 : Int32).toNatClampNeg (vp_nar .byte (v >>> ((32 : Int32).toInt64 &&& 63)).toInt32.toInt8.toInt32))))] := hD
                  refine lv_aload_n hx hb dX8_feed_56 rfl (lv_at hl 1 rfl) ?_
                  refine lv_dup hx hb dX8_feed_57 rfl ?_
                  refine va_get (D := D) (ci := 8) (v := .int 4) (C := RX8) (T := TX8) (N := 31) hx hb hts iX8_feed_X8 hown hK hP 0 rfl rfl 23 (by decide) (hts (.fieldLink RX8 243 "TapeCalculatorModel" "textSize" "I") (List.mem_of_getElem? (i := 2) rfl)) (fun _ h9 => h9) rfl dX8_feed_58 ?_
                  refine lv_iconst (v := 1) hx hb dX8_feed_61 (by decide) ?_
                  refine lv_iadd hx hb dX8_feed_62 ?_
                  refine lv_topi (fun x_148 ex_148 => ?_)
                  obtain rfl : x_148 = 5 := ex_148.trans (by decide)
                  refine va_put (D := D) (ci := 8) (v := .int 5) (ty := .int) (C := RX8) (T := TX8) (N := 31) hx hb hts iX8_feed_X8 tyX8 tyX8_ok nmX8 hown hK hP hD hS 0 rfl rfl 23 (by decide) (hts (.fieldLink RX8 243 "TapeCalculatorModel" "textSize" "I") (List.mem_of_getElem? (i := 2) rfl)) (fun _ h9 => h9) rfl (by decide +kernel) rfl rfl (Nat.le_of_ble_eq_true rfl) dX8_feed_63 (fun H locs hP hD hS => ?_)
                  have hP : va_P D vwCl [(m0, .inr (8, [.ref mH, .int 0, .long 0, .int 0, .long 0, .int 0, .int 0, .int 0, .int 0, .int 0, .int 0, .long 0, .int 0, .int 0, .ref mI, .ref mJ, .ref mS, .ref mD, .int 0, .int 0, .int 0, .long 0, .ref mX, .int 5, .int 0, .int 0, .ref mA, .ref mB, .ref mW, .ref mL, .int 0])), (mX, .inl (cB, 2000, .inl (upd (upd (upd (upd (upd (fun _ => 0) (0 : Int32).toNatClampNeg (vp_nar .byte (v >>> ((0 : Int32).toInt64 &&& 63)).toInt32.toInt8.toInt32)) (1 : Int32).toNatClampNeg (vp_nar .byte (v >>> ((8 : Int32).toInt64 &&& 63)).toInt32.toInt8.toInt32)) (2 : Int32).toNatClampNeg (vp_nar .byte (v >>> ((16 : Int32).toInt64 &&& 63)).toInt32.toInt8.toInt32)) (3 : Int32).toNatClampNeg (vp_nar .byte (v >>> ((24 : Int32).toInt64 &&& 63)).toInt32.toInt8.toInt32)) (4 : Int32).toNatClampNeg (vp_nar .byte (v >>> ((32 : Int32).toInt64 &&& 63)).toInt32.toInt8.toInt32))))] H := hP
                  have hD : va_D A [(m0, .inr (8, [.ref mH, .int 0, .long 0, .int 0, .long 0, .int 0, .int 0, .int 0, .int 0, .int 0, .int 0, .long 0, .int 0, .int 0, .ref mI, .ref mJ, .ref mS, .ref mD, .int 0, .int 0, .int 0, .long 0, .ref mX, .int 5, .int 0, .int 0, .ref mA, .ref mB, .ref mW, .ref mL, .int 0])), (mX, .inl (cB, 2000, .inl (upd (upd (upd (upd (upd (fun _ => 0) (0 : Int32).toNatClampNeg (vp_nar .byte (v >>> ((0 : Int32).toInt64 &&& 63)).toInt32.toInt8.toInt32)) (1 : Int32).toNatClampNeg (vp_nar .byte (v >>> ((8 : Int32).toInt64 &&& 63)).toInt32.toInt8.toInt32)) (2 : Int32).toNatClampNeg (vp_nar .byte (v >>> ((16 : Int32).toInt64 &&& 63)).toInt32.toInt8.toInt32)) (3 : Int32).toNatClampNeg (vp_nar .byte (v >>> ((24 : Int32).toInt64 &&& 63)).toInt32.toInt8.toInt32)) (4 : Int32).toNatClampNeg (vp_nar .byte (v >>> ((32 : Int32).toInt64 &&& 63)).toInt32.toInt8.toInt32))))] := hD
                  refine lv_iinc (v := 5) (lv' := [(4, .int 5), (0, .ref m0), (1, .long v), (3, .int 8)]) hx hb dX8_feed_66 hl (k := 0) rfl (by decide) (by decide) rfl (fun ls hl => ?_)
                  refine lv_goto (tgt := 32) hx hb dX8_feed_69 (by decide) ?_
                  refine lv_iload hx hb dX8_feed_32 (lv_at hl 0 rfl) ?_
                  refine lv_iload_n hx hb dX8_feed_34 rfl (lv_at hl 3 rfl) ?_
                  refine lv_icmp_ge (tgt := 72) hx hb dX8_feed_35 (by decide) (fun c_35_148 => ?_) (fun c_35_148 => ?_)
                  · exact absurd c_35_148 (by decide)
                  · have t_35_148 := c_35_148
                    try simp only [kb_eq0, kb_ne0, lg_cmp_lt, lg_cmp_le, lg_cmp_gt, lg_cmp_ge, lg_cmp_eq] at t_35_148
                    try simp only [Int32.lt_iff_toInt_lt, Int32.le_iff_toInt_le, ← Int32.toInt_inj, Int64.lt_iff_toInt_lt, Int64.le_iff_toInt_le, ← Int64.toInt_inj, Int32.toInt_toInt64, Int32.reduceToInt, Int64.reduceToInt] at t_35_148
                    refine lv_aload_n hx hb dX8_feed_38 rfl (lv_at hl 1 rfl) ?_
                    refine va_get (D := D) (ci := 8) (v := .ref mX) (C := RX8) (T := TX8) (N := 31) hx hb hts iX8_feed_X8 hown hK hP 0 rfl rfl 22 (by decide) (hts (.fieldLink RX8 26 "TapeCalculatorModel" "text" "[B") (List.mem_of_getElem? (i := 3) rfl)) (fun _ h9 => h9) rfl dX8_feed_39 ?_
                    refine lv_aload_n hx hb dX8_feed_42 rfl (lv_at hl 1 rfl) ?_
                    refine va_get (D := D) (ci := 8) (v := .int 5) (C := RX8) (T := TX8) (N := 31) hx hb hts iX8_feed_X8 hown hK hP 0 rfl rfl 23 (by decide) (hts (.fieldLink RX8 243 "TapeCalculatorModel" "textSize" "I") (List.mem_of_getElem? (i := 2) rfl)) (fun _ h9 => h9) rfl dX8_feed_43 ?_
                    refine lv_lload_n hx hb dX8_feed_46 rfl (lv_at hl 2 rfl) ?_
                    refine lv_bipush (v := 8) hx hb dX8_feed_47 (by decide) ?_
                    refine lv_iload hx hb dX8_feed_49 (lv_at hl 0 rfl) ?_
                    refine lv_imul hx hb dX8_feed_51 ?_
                    refine lv_topi (fun x_150 ex_150 => ?_)
                    obtain rfl : x_150 = 40 := ex_150.trans (by decide)
                    refine lv_lshr hx hb dX8_feed_52 rfl ?_
                    refine lv_l2i hx hb dX8_feed_53 rfl ?_
                    refine lv_i2b hx hb dX8_feed_54 rfl ?_
                    refine va_bast hx hb hK hP hD hS 1 2 rfl rfl (vp_in_iff.mpr (by decide)) dX8_feed_55 (fun H locs hP hD hS => ?_)
                    have hP : va_P D vwCl [(m0, .inr (8, [.ref mH, .int 0, .long 0, .int 0, .long 0, .int 0, .int 0, .int 0, .int 0, .int 0, .int 0, .long 0, .int 0, .int 0, .ref mI, .ref mJ, .ref mS, .ref mD, .int 0, .int 0, .int 0, .long 0, .ref mX, .int 5, .int 0, .int 0, .ref mA, .ref mB, .ref mW, .ref mL, .int 0])), (mX, .inl (cB, 2000, .inl (upd (upd (upd (upd (upd (upd (fun _ => 0) (0 : Int32).toNatClampNeg (vp_nar .byte (v >>> ((0 : Int32).toInt64 &&& 63)).toInt32.toInt8.toInt32)) (1 : Int32).toNatClampNeg (vp_nar .byte (v >>> ((8 : Int32).toInt64 &&& 63)).toInt32.toInt8.toInt32)) (2 : Int32).toNatClampNeg (vp_nar .byte (v >>> ((16 : Int32).toInt64 &&& 63)).toInt32.toInt8.toInt32)) (3 : Int32).toNatClampNeg (vp_nar .byte (v >>> ((24 : Int32).toInt64 &&& 63)).toInt32.toInt8.toInt32)) (4 : Int32).toNatClampNeg (vp_nar .byte (v >>> ((32 : Int32).toInt64 &&& 63)).toInt32.toInt8.toInt32)) (5 : Int32).toNatClampNeg (vp_nar .byte (v >>> ((40 : Int32).toInt64 &&& 63)).toInt32.toInt8.toInt32))))] H := hP
                    have hD : va_D A [(m0, .inr (8, [.ref mH, .int 0, .long 0, .int 0, .long 0, .int 0, .int 0, .int 0, .int 0, .int 0, .int 0, .long 0, .int 0, .int 0, .ref mI, .ref mJ, .ref mS, .ref mD, .int 0, .int 0, .int 0, .long 0, .ref mX, .int 5, .int 0, .int 0, .ref mA, .ref mB, .ref mW, .ref mL, .int 0])), (mX, .inl (cB, 2000, .inl (upd (upd (upd (upd (upd (upd (fun _ => 0) (0 : Int32).toNatClampNeg (vp_nar .byte (v >>> ((0 : Int32).toInt64 &&& 63)).toInt32.toInt8.toInt32)) (1 : Int32).toNatClampNeg (vp_nar .byte (v >>> ((8 : Int32).toInt64 &&& 63)).toInt32.toInt8.toInt32)) (2 : Int32).toNatClampNeg (vp_nar .byte (v >>> ((16 : Int32).toInt64 &&& 63)).toInt32.toInt8.toInt32)) (3 : Int32).toNatClampNeg (vp_nar .byte (v >>> ((24 : Int32).toInt64 &&& 63)).toInt32.toInt8.toInt32)) (4 : Int32).toNatClampNeg (vp_nar .byte (v >>> ((32 : Int32).toInt64 &&& 63)).toInt32.toInt8.toInt32)) (5 : Int32).toNatClampNeg (vp_nar .byte (v >>> ((40 : Int32).toInt64 &&& 63)).toInt32.toInt8.toInt32))))] := hD
                    refine lv_aload_n hx hb dX8_feed_56 rfl (lv_at hl 1 rfl) ?_
                    refine lv_dup hx hb dX8_feed_57 rfl ?_
                    refine va_get (D := D) (ci := 8) (v := .int 5) (C := RX8) (T := TX8) (N := 31) hx hb hts iX8_feed_X8 hown hK hP 0 rfl rfl 23 (by decide) (hts (.fieldLink RX8 243 "TapeCalculatorModel" "textSize" "I") (List.mem_of_getElem? (i := 2) rfl)) (fun _ h9 => h9) rfl dX8_feed_58 ?_
                    refine lv_iconst (v := 1) hx hb dX8_feed_61 (by decide) ?_
                    refine lv_iadd hx hb dX8_feed_62 ?_
                    refine lv_topi (fun x_151 ex_151 => ?_)
                    obtain rfl : x_151 = 6 := ex_151.trans (by decide)
                    refine va_put (D := D) (ci := 8) (v := .int 6) (ty := .int) (C := RX8) (T := TX8) (N := 31) hx hb hts iX8_feed_X8 tyX8 tyX8_ok nmX8 hown hK hP hD hS 0 rfl rfl 23 (by decide) (hts (.fieldLink RX8 243 "TapeCalculatorModel" "textSize" "I") (List.mem_of_getElem? (i := 2) rfl)) (fun _ h9 => h9) rfl (by decide +kernel) rfl rfl (Nat.le_of_ble_eq_true rfl) dX8_feed_63 (fun H locs hP hD hS => ?_)
                    have hP : va_P D vwCl [(m0, .inr (8, [.ref mH, .int 0, .long 0, .int 0, .long 0, .int 0, .int 0, .int 0, .int 0, .int 0, .int 0, .long 0, .int 0, .int 0, .ref mI, .ref mJ, .ref mS, .ref mD, .int 0, .int 0, .int 0, .long 0, .ref mX, .int 6, .int 0, .int 0, .ref mA, .ref mB, .ref mW, .ref mL, .int 0])), (mX, .inl (cB, 2000, .inl (upd (upd (upd (upd (upd (upd (fun _ => 0) (0 : Int32).toNatClampNeg (vp_nar .byte (v >>> ((0 : Int32).toInt64 &&& 63)).toInt32.toInt8.toInt32)) (1 : Int32).toNatClampNeg (vp_nar .byte (v >>> ((8 : Int32).toInt64 &&& 63)).toInt32.toInt8.toInt32)) (2 : Int32).toNatClampNeg (vp_nar .byte (v >>> ((16 : Int32).toInt64 &&& 63)).toInt32.toInt8.toInt32)) (3 : Int32).toNatClampNeg (vp_nar .byte (v >>> ((24 : Int32).toInt64 &&& 63)).toInt32.toInt8.toInt32)) (4 : Int32).toNatClampNeg (vp_nar .byte (v >>> ((32 : Int32).toInt64 &&& 63)).toInt32.toInt8.toInt32)) (5 : Int32).toNatClampNeg (vp_nar .byte (v >>> ((40 : Int32).toInt64 &&& 63)).toInt32.toInt8.toInt32))))] H := hP
                    have hD : va_D A [(m0, .inr (8, [.ref mH, .int 0, .long 0, .int 0, .long 0, .int 0, .int 0, .int 0, .int 0, .int 0, .int 0, .long 0, .int 0, .int 0, .ref mI, .ref mJ, .ref mS, .ref mD, .int 0, .int 0, .int 0, .long 0, .ref mX, .int 6, .int 0, .int 0, .ref mA, .ref mB, .ref mW, .ref mL, .int 0])), (mX, .inl (cB, 2000, .inl (upd (upd (upd (upd (upd (upd (fun _ => 0) (0 : Int32).toNatClampNeg (vp_nar .byte (v >>> ((0 : Int32).toInt64 &&& 63)).toInt32.toInt8.toInt32)) (1 : Int32).toNatClampNeg (vp_nar .byte (v >>> ((8 : Int32).toInt64 &&& 63)).toInt32.toInt8.toInt32)) (2 : Int32).toNatClampNeg (vp_nar .byte (v >>> ((16 : Int32).toInt64 &&& 63)).toInt32.toInt8.toInt32)) (3 : Int32).toNatClampNeg (vp_nar .byte (v >>> ((24 : Int32).toInt64 &&& 63)).toInt32.toInt8.toInt32)) (4 : Int32).toNatClampNeg (vp_nar .byte (v >>> ((32 : Int32).toInt64 &&& 63)).toInt32.toInt8.toInt32)) (5 : Int32).toNatClampNeg (vp_nar .byte (v >>> ((40 : Int32).toInt64 &&& 63)).toInt32.toInt8.toInt32))))] := hD
                    refine lv_iinc (v := 6) (lv' := [(4, .int 6), (0, .ref m0), (1, .long v), (3, .int 8)]) hx hb dX8_feed_66 hl (k := 0) rfl (by decide) (by decide) rfl (fun ls hl => ?_)
                    refine lv_goto (tgt := 32) hx hb dX8_feed_69 (by decide) ?_
                    refine lv_iload hx hb dX8_feed_32 (lv_at hl 0 rfl) ?_
                    refine lv_iload_n hx hb dX8_feed_34 rfl (lv_at hl 3 rfl) ?_
                    refine lv_icmp_ge (tgt := 72) hx hb dX8_feed_35 (by decide) (fun c_35_151 => ?_) (fun c_35_151 => ?_)
                    · exact absurd c_35_151 (by decide)
                    · have t_35_151 := c_35_151
                      try simp only [kb_eq0, kb_ne0, lg_cmp_lt, lg_cmp_le, lg_cmp_gt, lg_cmp_ge, lg_cmp_eq] at t_35_151
                      try simp only [Int32.lt_iff_toInt_lt, Int32.le_iff_toInt_le, ← Int32.toInt_inj, Int64.lt_iff_toInt_lt, Int64.le_iff_toInt_le, ← Int64.toInt_inj, Int32.toInt_toInt64, Int32.reduceToInt, Int64.reduceToInt] at t_35_151
                      refine lv_aload_n hx hb dX8_feed_38 rfl (lv_at hl 1 rfl) ?_
                      refine va_get (D := D) (ci := 8) (v := .ref mX) (C := RX8) (T := TX8) (N := 31) hx hb hts iX8_feed_X8 hown hK hP 0 rfl rfl 22 (by decide) (hts (.fieldLink RX8 26 "TapeCalculatorModel" "text" "[B") (List.mem_of_getElem? (i := 3) rfl)) (fun _ h9 => h9) rfl dX8_feed_39 ?_
                      refine lv_aload_n hx hb dX8_feed_42 rfl (lv_at hl 1 rfl) ?_
                      refine va_get (D := D) (ci := 8) (v := .int 6) (C := RX8) (T := TX8) (N := 31) hx hb hts iX8_feed_X8 hown hK hP 0 rfl rfl 23 (by decide) (hts (.fieldLink RX8 243 "TapeCalculatorModel" "textSize" "I") (List.mem_of_getElem? (i := 2) rfl)) (fun _ h9 => h9) rfl dX8_feed_43 ?_
                      refine lv_lload_n hx hb dX8_feed_46 rfl (lv_at hl 2 rfl) ?_
                      refine lv_bipush (v := 8) hx hb dX8_feed_47 (by decide) ?_
                      refine lv_iload hx hb dX8_feed_49 (lv_at hl 0 rfl) ?_
                      refine lv_imul hx hb dX8_feed_51 ?_
                      refine lv_topi (fun x_153 ex_153 => ?_)
                      obtain rfl : x_153 = 48 := ex_153.trans (by decide)
                      refine lv_lshr hx hb dX8_feed_52 rfl ?_
                      refine lv_l2i hx hb dX8_feed_53 rfl ?_
                      refine lv_i2b hx hb dX8_feed_54 rfl ?_
                      refine va_bast hx hb hK hP hD hS 1 2 rfl rfl (vp_in_iff.mpr (by decide)) dX8_feed_55 (fun H locs hP hD hS => ?_)
                      have hP : va_P D vwCl [(m0, .inr (8, [.ref mH, .int 0, .long 0, .int 0, .long 0, .int 0, .int 0, .int 0, .int 0, .int 0, .int 0, .long 0, .int 0, .int 0, .ref mI, .ref mJ, .ref mS, .ref mD, .int 0, .int 0, .int 0, .long 0, .ref mX, .int 6, .int 0, .int 0, .ref mA, .ref mB, .ref mW, .ref mL, .int 0])), (mX, .inl (cB, 2000, .inl (upd (upd (upd (upd (upd (upd (upd (fun _ => 0) (0 : Int32).toNatClampNeg (vp_nar .byte (v >>> ((0 : Int32).toInt64 &&& 63)).toInt32.toInt8.toInt32)) (1 : Int32).toNatClampNeg (vp_nar .byte (v >>> ((8 : Int32).toInt64 &&& 63)).toInt32.toInt8.toInt32)) (2 : Int32).toNatClampNeg (vp_nar .byte (v >>> ((16 : Int32).toInt64 &&& 63)).toInt32.toInt8.toInt32)) (3 : Int32).toNatClampNeg (vp_nar .byte (v >>> ((24 : Int32).toInt64 &&& 63)).toInt32.toInt8.toInt32)) (4 : Int32).toNatClampNeg (vp_nar .byte (v >>> ((32 : Int32).toInt64 &&& 63)).toInt32.toInt8.toInt32)) (5 : Int32).toNatClampNeg (vp_nar .byte (v >>> ((40 : Int32).toInt64 &&& 63)).toInt32.toInt8.toInt32)) (6 : Int32).toNatClampNeg (vp_nar .byte (v >>> ((48 : Int32).toInt64 &&& 63)).toInt32.toInt8.toInt32))))] H := hP
                      have hD : va_D A [(m0, .inr (8, [.ref mH, .int 0, .long 0, .int 0, .long 0, .int 0, .int 0, .int 0, .int 0, .int 0, .int 0, .long 0, .int 0, .int 0, .ref mI, .ref mJ, .ref mS, .ref mD, .int 0, .int 0, .int 0, .long 0, .ref mX, .int 6, .int 0, .int 0, .ref mA, .ref mB, .ref mW, .ref mL, .int 0])), (mX, .inl (cB, 2000, .inl (upd (upd (upd (upd (upd (upd (upd (fun _ => 0) (0 : Int32).toNatClampNeg (vp_nar .byte (v >>> ((0 : Int32).toInt64 &&& 63)).toInt32.toInt8.toInt32)) (1 : Int32).toNatClampNeg (vp_nar .byte (v >>> ((8 : Int32).toInt64 &&& 63)).toInt32.toInt8.toInt32)) (2 : Int32).toNatClampNeg (vp_nar .byte (v >>> ((16 : Int32).toInt64 &&& 63)).toInt32.toInt8.toInt32)) (3 : Int32).toNatClampNeg (vp_nar .byte (v >>> ((24 : Int32).toInt64 &&& 63)).toInt32.toInt8.toInt32)) (4 : Int32).toNatClampNeg (vp_nar .byte (v >>> ((32 : Int32).toInt64 &&& 63)).toInt32.toInt8.toInt32)) (5 : Int32).toNatClampNeg (vp_nar .byte (v >>> ((40 : Int32).toInt64 &&& 63)).toInt32.toInt8.toInt32)) (6 : Int32).toNatClampNeg (vp_nar .byte (v >>> ((48 : Int32).toInt64 &&& 63)).toInt32.toInt8.toInt32))))] := hD
                      refine lv_aload_n hx hb dX8_feed_56 rfl (lv_at hl 1 rfl) ?_
                      refine lv_dup hx hb dX8_feed_57 rfl ?_
                      refine va_get (D := D) (ci := 8) (v := .int 6) (C := RX8) (T := TX8) (N := 31) hx hb hts iX8_feed_X8 hown hK hP 0 rfl rfl 23 (by decide) (hts (.fieldLink RX8 243 "TapeCalculatorModel" "textSize" "I") (List.mem_of_getElem? (i := 2) rfl)) (fun _ h9 => h9) rfl dX8_feed_58 ?_
                      refine lv_iconst (v := 1) hx hb dX8_feed_61 (by decide) ?_
                      refine lv_iadd hx hb dX8_feed_62 ?_
                      refine lv_topi (fun x_154 ex_154 => ?_)
                      obtain rfl : x_154 = 7 := ex_154.trans (by decide)
                      refine va_put (D := D) (ci := 8) (v := .int 7) (ty := .int) (C := RX8) (T := TX8) (N := 31) hx hb hts iX8_feed_X8 tyX8 tyX8_ok nmX8 hown hK hP hD hS 0 rfl rfl 23 (by decide) (hts (.fieldLink RX8 243 "TapeCalculatorModel" "textSize" "I") (List.mem_of_getElem? (i := 2) rfl)) (fun _ h9 => h9) rfl (by decide +kernel) rfl rfl (Nat.le_of_ble_eq_true rfl) dX8_feed_63 (fun H locs hP hD hS => ?_)
                      have hP : va_P D vwCl [(m0, .inr (8, [.ref mH, .int 0, .long 0, .int 0, .long 0, .int 0, .int 0, .int 0, .int 0, .int 0, .int 0, .long 0, .int 0, .int 0, .ref mI, .ref mJ, .ref mS, .ref mD, .int 0, .int 0, .int 0, .long 0, .ref mX, .int 7, .int 0, .int 0, .ref mA, .ref mB, .ref mW, .ref mL, .int 0])), (mX, .inl (cB, 2000, .inl (upd (upd (upd (upd (upd (upd (upd (fun _ => 0) (0 : Int32).toNatClampNeg (vp_nar .byte (v >>> ((0 : Int32).toInt64 &&& 63)).toInt32.toInt8.toInt32)) (1 : Int32).toNatClampNeg (vp_nar .byte (v >>> ((8 : Int32).toInt64 &&& 63)).toInt32.toInt8.toInt32)) (2 : Int32).toNatClampNeg (vp_nar .byte (v >>> ((16 : Int32).toInt64 &&& 63)).toInt32.toInt8.toInt32)) (3 : Int32).toNatClampNeg (vp_nar .byte (v >>> ((24 : Int32).toInt64 &&& 63)).toInt32.toInt8.toInt32)) (4 : Int32).toNatClampNeg (vp_nar .byte (v >>> ((32 : Int32).toInt64 &&& 63)).toInt32.toInt8.toInt32)) (5 : Int32).toNatClampNeg (vp_nar .byte (v >>> ((40 : Int32).toInt64 &&& 63)).toInt32.toInt8.toInt32)) (6 : Int32).toNatClampNeg (vp_nar .byte (v >>> ((48 : Int32).toInt64 &&& 63)).toInt32.toInt8.toInt32))))] H := hP
                      have hD : va_D A [(m0, .inr (8, [.ref mH, .int 0, .long 0, .int 0, .long 0, .int 0, .int 0, .int 0, .int 0, .int 0, .int 0, .long 0, .int 0, .int 0, .ref mI, .ref mJ, .ref mS, .ref mD, .int 0, .int 0, .int 0, .long 0, .ref mX, .int 7, .int 0, .int 0, .ref mA, .ref mB, .ref mW, .ref mL, .int 0])), (mX, .inl (cB, 2000, .inl (upd (upd (upd (upd (upd (upd (upd (fun _ => 0) (0 : Int32).toNatClampNeg (vp_nar .byte (v >>> ((0 : Int32).toInt64 &&& 63)).toInt32.toInt8.toInt32)) (1 : Int32).toNatClampNeg (vp_nar .byte (v >>> ((8 : Int32).toInt64 &&& 63)).toInt32.toInt8.toInt32)) (2 : Int32).toNatClampNeg (vp_nar .byte (v >>> ((16 : Int32).toInt64 &&& 63)).toInt32.toInt8.toInt32)) (3 : Int32).toNatClampNeg (vp_nar .byte (v >>> ((24 : Int32).toInt64 &&& 63)).toInt32.toInt8.toInt32)) (4 : Int32).toNatClampNeg (vp_nar .byte (v >>> ((32 : Int32).toInt64 &&& 63)).toInt32.toInt8.toInt32)) (5 : Int32).toNatClampNeg (vp_nar .byte (v >>> ((40 : Int32).toInt64 &&& 63)).toInt32.toInt8.toInt32)) (6 : Int32).toNatClampNeg (vp_nar .byte (v >>> ((48 : Int32).toInt64 &&& 63)).toInt32.toInt8.toInt32))))] := hD
                      refine lv_iinc (v := 7) (lv' := [(4, .int 7), (0, .ref m0), (1, .long v), (3, .int 8)]) hx hb dX8_feed_66 hl (k := 0) rfl (by decide) (by decide) rfl (fun ls hl => ?_)
                      refine lv_goto (tgt := 32) hx hb dX8_feed_69 (by decide) ?_
                      refine lv_iload hx hb dX8_feed_32 (lv_at hl 0 rfl) ?_
                      refine lv_iload_n hx hb dX8_feed_34 rfl (lv_at hl 3 rfl) ?_
                      refine lv_icmp_ge (tgt := 72) hx hb dX8_feed_35 (by decide) (fun c_35_154 => ?_) (fun c_35_154 => ?_)
                      · exact absurd c_35_154 (by decide)
                      · have t_35_154 := c_35_154
                        try simp only [kb_eq0, kb_ne0, lg_cmp_lt, lg_cmp_le, lg_cmp_gt, lg_cmp_ge, lg_cmp_eq] at t_35_154
                        try simp only [Int32.lt_iff_toInt_lt, Int32.le_iff_toInt_le, ← Int32.toInt_inj, Int64.lt_iff_toInt_lt, Int64.le_iff_toInt_le, ← Int64.toInt_inj, Int32.toInt_toInt64, Int32.reduceToInt, Int64.reduceToInt] at t_35_154
                        refine lv_aload_n hx hb dX8_feed_38 rfl (lv_at hl 1 rfl) ?_
                        refine va_get (D := D) (ci := 8) (v := .ref mX) (C := RX8) (T := TX8) (N := 31) hx hb hts iX8_feed_X8 hown hK hP 0 rfl rfl 22 (by decide) (hts (.fieldLink RX8 26 "TapeCalculatorModel" "text" "[B") (List.mem_of_getElem? (i := 3) rfl)) (fun _ h9 => h9) rfl dX8_feed_39 ?_
                        refine lv_aload_n hx hb dX8_feed_42 rfl (lv_at hl 1 rfl) ?_
                        refine va_get (D := D) (ci := 8) (v := .int 7) (C := RX8) (T := TX8) (N := 31) hx hb hts iX8_feed_X8 hown hK hP 0 rfl rfl 23 (by decide) (hts (.fieldLink RX8 243 "TapeCalculatorModel" "textSize" "I") (List.mem_of_getElem? (i := 2) rfl)) (fun _ h9 => h9) rfl dX8_feed_43 ?_
                        refine lv_lload_n hx hb dX8_feed_46 rfl (lv_at hl 2 rfl) ?_
                        refine lv_bipush (v := 8) hx hb dX8_feed_47 (by decide) ?_
                        refine lv_iload hx hb dX8_feed_49 (lv_at hl 0 rfl) ?_
                        refine lv_imul hx hb dX8_feed_51 ?_
                        refine lv_topi (fun x_156 ex_156 => ?_)
                        obtain rfl : x_156 = 56 := ex_156.trans (by decide)
                        refine lv_lshr hx hb dX8_feed_52 rfl ?_
                        refine lv_l2i hx hb dX8_feed_53 rfl ?_
                        refine lv_i2b hx hb dX8_feed_54 rfl ?_
                        refine va_bast hx hb hK hP hD hS 1 2 rfl rfl (vp_in_iff.mpr (by decide)) dX8_feed_55 (fun H locs hP hD hS => ?_)
                        have hP : va_P D vwCl [(m0, .inr (8, [.ref mH, .int 0, .long 0, .int 0, .long 0, .int 0, .int 0, .int 0, .int 0, .int 0, .int 0, .long 0, .int 0, .int 0, .ref mI, .ref mJ, .ref mS, .ref mD, .int 0, .int 0, .int 0, .long 0, .ref mX, .int 7, .int 0, .int 0, .ref mA, .ref mB, .ref mW, .ref mL, .int 0])), (mX, .inl (cB, 2000, .inl (upd (upd (upd (upd (upd (upd (upd (upd (fun _ => 0) (0 : Int32).toNatClampNeg (vp_nar .byte (v >>> ((0 : Int32).toInt64 &&& 63)).toInt32.toInt8.toInt32)) (1 : Int32).toNatClampNeg (vp_nar .byte (v >>> ((8 : Int32).toInt64 &&& 63)).toInt32.toInt8.toInt32)) (2 : Int32).toNatClampNeg (vp_nar .byte (v >>> ((16 : Int32).toInt64 &&& 63)).toInt32.toInt8.toInt32)) (3 : Int32).toNatClampNeg (vp_nar .byte (v >>> ((24 : Int32).toInt64 &&& 63)).toInt32.toInt8.toInt32)) (4 : Int32).toNatClampNeg (vp_nar .byte (v >>> ((32 : Int32).toInt64 &&& 63)).toInt32.toInt8.toInt32)) (5 : Int32).toNatClampNeg (vp_nar .byte (v >>> ((40 : Int32).toInt64 &&& 63)).toInt32.toInt8.toInt32)) (6 : Int32).toNatClampNeg (vp_nar .byte (v >>> ((48 : Int32).toInt64 &&& 63)).toInt32.toInt8.toInt32)) (7 : Int32).toNatClampNeg (vp_nar .byte (v >>> ((56 : Int32).toInt64 &&& 63)).toInt32.toInt8.toInt32))))] H := hP
                        have hD : va_D A [(m0, .inr (8, [.ref mH, .int 0, .long 0, .int 0, .long 0, .int 0, .int 0, .int 0, .int 0, .int 0, .int 0, .long 0, .int 0, .int 0, .ref mI, .ref mJ, .ref mS, .ref mD, .int 0, .int 0, .int 0, .long 0, .ref mX, .int 7, .int 0, .int 0, .ref mA, .ref mB, .ref mW, .ref mL, .int 0])), (mX, .inl (cB, 2000, .inl (upd (upd (upd (upd (upd (upd (upd (upd (fun _ => 0) (0 : Int32).toNatClampNeg (vp_nar .byte (v >>> ((0 : Int32).toInt64 &&& 63)).toInt32.toInt8.toInt32)) (1 : Int32).toNatClampNeg (vp_nar .byte (v >>> ((8 : Int32).toInt64 &&& 63)).toInt32.toInt8.toInt32)) (2 : Int32).toNatClampNeg (vp_nar .byte (v >>> ((16 : Int32).toInt64 &&& 63)).toInt32.toInt8.toInt32)) (3 : Int32).toNatClampNeg (vp_nar .byte (v >>> ((24 : Int32).toInt64 &&& 63)).toInt32.toInt8.toInt32)) (4 : Int32).toNatClampNeg (vp_nar .byte (v >>> ((32 : Int32).toInt64 &&& 63)).toInt32.toInt8.toInt32)) (5 : Int32).toNatClampNeg (vp_nar .byte (v >>> ((40 : Int32).toInt64 &&& 63)).toInt32.toInt8.toInt32)) (6 : Int32).toNatClampNeg (vp_nar .byte (v >>> ((48 : Int32).toInt64 &&& 63)).toInt32.toInt8.toInt32)) (7 : Int32).toNatClampNeg (vp_nar .byte (v >>> ((56 : Int32).toInt64 &&& 63)).toInt32.toInt8.toInt32))))] := hD
                        refine lv_aload_n hx hb dX8_feed_56 rfl (lv_at hl 1 rfl) ?_
                        refine lv_dup hx hb dX8_feed_57 rfl ?_
                        refine va_get (D := D) (ci := 8) (v := .int 7) (C := RX8) (T := TX8) (N := 31) hx hb hts iX8_feed_X8 hown hK hP 0 rfl rfl 23 (by decide) (hts (.fieldLink RX8 243 "TapeCalculatorModel" "textSize" "I") (List.mem_of_getElem? (i := 2) rfl)) (fun _ h9 => h9) rfl dX8_feed_58 ?_
                        refine lv_iconst (v := 1) hx hb dX8_feed_61 (by decide) ?_
                        refine lv_iadd hx hb dX8_feed_62 ?_
                        refine lv_topi (fun x_157 ex_157 => ?_)
                        obtain rfl : x_157 = 8 := ex_157.trans (by decide)
                        refine va_put (D := D) (ci := 8) (v := .int 8) (ty := .int) (C := RX8) (T := TX8) (N := 31) hx hb hts iX8_feed_X8 tyX8 tyX8_ok nmX8 hown hK hP hD hS 0 rfl rfl 23 (by decide) (hts (.fieldLink RX8 243 "TapeCalculatorModel" "textSize" "I") (List.mem_of_getElem? (i := 2) rfl)) (fun _ h9 => h9) rfl (by decide +kernel) rfl rfl (Nat.le_of_ble_eq_true rfl) dX8_feed_63 (fun H locs hP hD hS => ?_)
                        have hP : va_P D vwCl [(m0, .inr (8, [.ref mH, .int 0, .long 0, .int 0, .long 0, .int 0, .int 0, .int 0, .int 0, .int 0, .int 0, .long 0, .int 0, .int 0, .ref mI, .ref mJ, .ref mS, .ref mD, .int 0, .int 0, .int 0, .long 0, .ref mX, .int 8, .int 0, .int 0, .ref mA, .ref mB, .ref mW, .ref mL, .int 0])), (mX, .inl (cB, 2000, .inl (upd (upd (upd (upd (upd (upd (upd (upd (fun _ => 0) (0 : Int32).toNatClampNeg (vp_nar .byte (v >>> ((0 : Int32).toInt64 &&& 63)).toInt32.toInt8.toInt32)) (1 : Int32).toNatClampNeg (vp_nar .byte (v >>> ((8 : Int32).toInt64 &&& 63)).toInt32.toInt8.toInt32)) (2 : Int32).toNatClampNeg (vp_nar .byte (v >>> ((16 : Int32).toInt64 &&& 63)).toInt32.toInt8.toInt32)) (3 : Int32).toNatClampNeg (vp_nar .byte (v >>> ((24 : Int32).toInt64 &&& 63)).toInt32.toInt8.toInt32)) (4 : Int32).toNatClampNeg (vp_nar .byte (v >>> ((32 : Int32).toInt64 &&& 63)).toInt32.toInt8.toInt32)) (5 : Int32).toNatClampNeg (vp_nar .byte (v >>> ((40 : Int32).toInt64 &&& 63)).toInt32.toInt8.toInt32)) (6 : Int32).toNatClampNeg (vp_nar .byte (v >>> ((48 : Int32).toInt64 &&& 63)).toInt32.toInt8.toInt32)) (7 : Int32).toNatClampNeg (vp_nar .byte (v >>> ((56 : Int32).toInt64 &&& 63)).toInt32.toInt8.toInt32))))] H := hP
                        have hD : va_D A [(m0, .inr (8, [.ref mH, .int 0, .long 0, .int 0, .long 0, .int 0, .int 0, .int 0, .int 0, .int 0, .int 0, .long 0, .int 0, .int 0, .ref mI, .ref mJ, .ref mS, .ref mD, .int 0, .int 0, .int 0, .long 0, .ref mX, .int 8, .int 0, .int 0, .ref mA, .ref mB, .ref mW, .ref mL, .int 0])), (mX, .inl (cB, 2000, .inl (upd (upd (upd (upd (upd (upd (upd (upd (fun _ => 0) (0 : Int32).toNatClampNeg (vp_nar .byte (v >>> ((0 : Int32).toInt64 &&& 63)).toInt32.toInt8.toInt32)) (1 : Int32).toNatClampNeg (vp_nar .byte (v >>> ((8 : Int32).toInt64 &&& 63)).toInt32.toInt8.toInt32)) (2 : Int32).toNatClampNeg (vp_nar .byte (v >>> ((16 : Int32).toInt64 &&& 63)).toInt32.toInt8.toInt32)) (3 : Int32).toNatClampNeg (vp_nar .byte (v >>> ((24 : Int32).toInt64 &&& 63)).toInt32.toInt8.toInt32)) (4 : Int32).toNatClampNeg (vp_nar .byte (v >>> ((32 : Int32).toInt64 &&& 63)).toInt32.toInt8.toInt32)) (5 : Int32).toNatClampNeg (vp_nar .byte (v >>> ((40 : Int32).toInt64 &&& 63)).toInt32.toInt8.toInt32)) (6 : Int32).toNatClampNeg (vp_nar .byte (v >>> ((48 : Int32).toInt64 &&& 63)).toInt32.toInt8.toInt32)) (7 : Int32).toNatClampNeg (vp_nar .byte (v >>> ((56 : Int32).toInt64 &&& 63)).toInt32.toInt8.toInt32))))] := hD
                        refine lv_iinc (v := 8) (lv' := [(4, .int 8), (0, .ref m0), (1, .long v), (3, .int 8)]) hx hb dX8_feed_66 hl (k := 0) rfl (by decide) (by decide) rfl (fun ls hl => ?_)
                        refine lv_goto (tgt := 32) hx hb dX8_feed_69 (by decide) ?_
                        refine lv_iload hx hb dX8_feed_32 (lv_at hl 0 rfl) ?_
                        refine lv_iload_n hx hb dX8_feed_34 rfl (lv_at hl 3 rfl) ?_
                        refine lv_icmp_ge (tgt := 72) hx hb dX8_feed_35 (by decide) (fun c_35_157 => ?_) (fun c_35_157 => ?_)
                        · have t_35_157 := c_35_157
                          try simp only [kb_eq0, kb_ne0, lg_cmp_lt, lg_cmp_le, lg_cmp_gt, lg_cmp_ge, lg_cmp_eq] at t_35_157
                          try simp only [Int32.lt_iff_toInt_lt, Int32.le_iff_toInt_le, ← Int32.toInt_inj, Int64.lt_iff_toInt_lt, Int64.le_iff_toInt_le, ← Int64.toInt_inj, Int32.toInt_toInt64, Int32.reduceToInt, Int64.reduceToInt] at t_35_157
                          refine lv_aload_n hx hb dX8_feed_72 rfl (lv_at hl 1 rfl) ?_
                          refine va_get (D := D) (ci := 8) (v := .int 8) (C := RX8) (T := TX8) (N := 31) hx hb hts iX8_feed_X8 hown hK hP 0 rfl rfl 23 (by decide) (hts (.fieldLink RX8 243 "TapeCalculatorModel" "textSize" "I") (List.mem_of_getElem? (i := 2) rfl)) (fun _ h9 => h9) rfl dX8_feed_73 ?_
                          refine kIret (u := (8, (upd (upd (upd (upd (upd (upd (upd (upd (fun _ => 0) (0 : Int32).toNatClampNeg (vp_nar .byte (v >>> ((0 : Int32).toInt64 &&& 63)).toInt32.toInt8.toInt32)) (1 : Int32).toNatClampNeg (vp_nar .byte (v >>> ((8 : Int32).toInt64 &&& 63)).toInt32.toInt8.toInt32)) (2 : Int32).toNatClampNeg (vp_nar .byte (v >>> ((16 : Int32).toInt64 &&& 63)).toInt32.toInt8.toInt32)) (3 : Int32).toNatClampNeg (vp_nar .byte (v >>> ((24 : Int32).toInt64 &&& 63)).toInt32.toInt8.toInt32)) (4 : Int32).toNatClampNeg (vp_nar .byte (v >>> ((32 : Int32).toInt64 &&& 63)).toInt32.toInt8.toInt32)) (5 : Int32).toNatClampNeg (vp_nar .byte (v >>> ((40 : Int32).toInt64 &&& 63)).toInt32.toInt8.toInt32)) (6 : Int32).toNatClampNeg (vp_nar .byte (v >>> ((48 : Int32).toInt64 &&& 63)).toInt32.toInt8.toInt32)) (7 : Int32).toNatClampNeg (vp_nar .byte (v >>> ((56 : Int32).toInt64 &&& 63)).toInt32.toInt8.toInt32)))) hx hb hr rfl hlocks hS dX8_feed_76 ?_ (hP.sub [0, 1] rfl) (hD.sub [0, 1] (by decide) rfl)
                          first
                            | exact (kif_t (by decide)).symm
                            | exact (kif_t (by omega)).symm
                            | exact (kif_f (by omega)).symm
                        · exact absurd (by decide) c_35_157
      · exact absurd (by decide) c_23_132
    · have t_9_130 := c_9_130
      try simp only [kb_eq0, kb_ne0, lg_cmp_lt, lg_cmp_le, lg_cmp_gt, lg_cmp_ge, lg_cmp_eq] at t_9_130
      try simp only [Int32.lt_iff_toInt_lt, Int32.le_iff_toInt_le, ← Int32.toInt_inj, Int64.lt_iff_toInt_lt, Int64.le_iff_toInt_le, ← Int64.toInt_inj, Int32.toInt_toInt64, Int32.reduceToInt, Int64.reduceToInt] at t_9_130
      omega
set_option maxRecDepth 100000 in
theorem iX8_load_X8 : ∀ w ∈ wsX80, w ∈ wsX8_load := fun w h => (goodIn_r (big := wsX8_load) wsX80 [50, 51, 52, 53, 54, 55, 56, 57, 58, 59, 60, 61, 62, 63, 64, 65, 66, 67, 68, 69, 70, 71, 72, 73, 74, 75, 76, 77, 78, 79, 80] rfl (by decide +kernel) w h).1
set_option maxRecDepth 100000 in
set_option maxHeartbeats 4000000 in
theorem r_load (l : Launch) (D : va_G) (cI cL cB cZ cT : ClassId) (sz : Nat) (m0 mH mI mJ mS mD mX mA mB mW mL : Nat) : kM (S := Unit) l yX8_load wsX8_load ({ frames := 0, cells := 0, slots := 0, locals := 0 }) D (kT cI cL cB cZ cT) [.ref m0] [(m0, .inr (8, [.ref mH, .int 0, .long 0, .int 0, .long 0, .int 0, .int 0, .int 0, .int 0, .int 0, .int 0, .long 0, .int 0, .int 0, .ref mI, .ref mJ, .ref mS, .ref mD, .int 0, .int 0, .int 0, .long 0, .ref mX, .int 0, .int 0, .int 0, .ref mA, .ref mB, .ref mW, .ref mL, .int 0]))] sz eI (fun r _ => r = 0) (fun _ => [(m0, .inr (8, [.ref mH, .int 0, .long 0, .int 0, .long 0, .int 0, .int 0, .int 0, .int 0, .int 0, .int 0, .long 0, .int 0, .int 0, .ref mI, .ref mJ, .ref mS, .ref mD, .int 0, .int 0, .int 0, .long 0, .ref mX, .int 0, .int 0, .int (-1), .ref mA, .ref mB, .ref mW, .ref mL, .int 0]))]) 0 0 := by
  refine kStart (cc := cX8_load) (maxL := 3) (ret := (some .int)) (own := RX8) (by decide) rfl rfl (Nat.le_of_ble_eq_true rfl) ?_
  intro p e s m args below meth c A ls hx hb hr hml hown hts hlocks hnm hsz hA hG hP hD hS hl
  have hK := hG.1
  have hl : lv_has ls 3 [(0, .ref m0)] := hl
  refine lv_aload_n hx hb dX8_load_0 rfl (lv_at hl 0 rfl) ?_
  refine lv_iconst (v := 0) hx hb dX8_load_1 (by decide) ?_
  refine va_put (D := D) (ci := 8) (v := .int 0) (ty := .int) (C := RX8) (T := TX8) (N := 31) hx hb hts iX8_load_X8 tyX8 tyX8_ok nmX8 hown hK hP hD hS 0 rfl rfl 24 (by decide) (hts (.fieldLink RX8 246 "TapeCalculatorModel" "at" "I") (List.mem_of_getElem? (i := 1) rfl)) (fun _ h9 => h9) rfl (by decide +kernel) rfl rfl (Nat.le_of_ble_eq_true rfl) dX8_load_2 (fun H locs hP hD hS => ?_)
  have hP : va_P D vwCl [(m0, .inr (8, [.ref mH, .int 0, .long 0, .int 0, .long 0, .int 0, .int 0, .int 0, .int 0, .int 0, .int 0, .long 0, .int 0, .int 0, .ref mI, .ref mJ, .ref mS, .ref mD, .int 0, .int 0, .int 0, .long 0, .ref mX, .int 0, .int 0, .int 0, .ref mA, .ref mB, .ref mW, .ref mL, .int 0]))] H := hP
  have hD : va_D A [(m0, .inr (8, [.ref mH, .int 0, .long 0, .int 0, .long 0, .int 0, .int 0, .int 0, .int 0, .int 0, .int 0, .long 0, .int 0, .int 0, .ref mI, .ref mJ, .ref mS, .ref mD, .int 0, .int 0, .int 0, .long 0, .ref mX, .int 0, .int 0, .int 0, .ref mA, .ref mB, .ref mW, .ref mL, .int 0]))] := hD
  refine lv_aload_n hx hb dX8_load_5 rfl (lv_at hl 0 rfl) ?_
  refine lv_iconst (v := (-1)) hx hb dX8_load_6 (by decide) ?_
  refine va_put (D := D) (ci := 8) (v := .int (-1)) (ty := .int) (C := RX8) (T := TX8) (N := 31) hx hb hts iX8_load_X8 tyX8 tyX8_ok nmX8 hown hK hP hD hS 0 rfl rfl 25 (by decide) (hts (.fieldLink RX8 259 "TapeCalculatorModel" "wrong" "I") (List.mem_of_getElem? (i := 2) rfl)) (fun _ h9 => h9) rfl (by decide +kernel) rfl rfl (Nat.le_of_ble_eq_true rfl) dX8_load_7 (fun H locs hP hD hS => ?_)
  have hP : va_P D vwCl [(m0, .inr (8, [.ref mH, .int 0, .long 0, .int 0, .long 0, .int 0, .int 0, .int 0, .int 0, .int 0, .int 0, .long 0, .int 0, .int 0, .ref mI, .ref mJ, .ref mS, .ref mD, .int 0, .int 0, .int 0, .long 0, .ref mX, .int 0, .int 0, .int (-1), .ref mA, .ref mB, .ref mW, .ref mL, .int 0]))] H := hP
  have hD : va_D A [(m0, .inr (8, [.ref mH, .int 0, .long 0, .int 0, .long 0, .int 0, .int 0, .int 0, .int 0, .int 0, .int 0, .long 0, .int 0, .int 0, .ref mI, .ref mJ, .ref mS, .ref mD, .int 0, .int 0, .int 0, .long 0, .ref mX, .int 0, .int 0, .int (-1), .ref mA, .ref mB, .ref mW, .ref mL, .int 0]))] := hD
  refine lv_iconst (v := 0) hx hb dX8_load_10 (by decide) ?_
  refine lv_istore_n (lv' := [(1, .int 0), (0, .ref m0)]) hx hb dX8_load_11 rfl hl (by decide) rfl (fun ls hl => ?_)
  refine lv_aload_n hx hb dX8_load_12 rfl (lv_at hl 1 rfl) ?_
  refine va_get (D := D) (ci := 8) (v := .int 0) (C := RX8) (T := TX8) (N := 31) hx hb hts iX8_load_X8 hown hK hP 0 rfl rfl 24 (by decide) (hts (.fieldLink RX8 246 "TapeCalculatorModel" "at" "I") (List.mem_of_getElem? (i := 1) rfl)) (fun _ h9 => h9) rfl dX8_load_13 ?_
  refine lv_aload_n hx hb dX8_load_16 rfl (lv_at hl 1 rfl) ?_
  refine va_get (D := D) (ci := 8) (v := .int 0) (C := RX8) (T := TX8) (N := 31) hx hb hts iX8_load_X8 hown hK hP 0 rfl rfl 23 (by decide) (hts (.fieldLink RX8 243 "TapeCalculatorModel" "textSize" "I") (List.mem_of_getElem? (i := 3) rfl)) (fun _ h9 => h9) rfl dX8_load_17 ?_
  refine lv_icmp_ge (tgt := 59) hx hb dX8_load_20 (by decide) (fun c_20_0 => ?_) (fun c_20_0 => ?_)
  · have t_20_0 := c_20_0
    try simp only [kb_eq0, kb_ne0, lg_cmp_lt, lg_cmp_le, lg_cmp_gt, lg_cmp_ge, lg_cmp_eq] at t_20_0
    try simp only [Int32.lt_iff_toInt_lt, Int32.le_iff_toInt_le, ← Int32.toInt_inj, Int64.lt_iff_toInt_lt, Int64.le_iff_toInt_le, ← Int64.toInt_inj, Int32.toInt_toInt64, Int32.reduceToInt, Int64.reduceToInt] at t_20_0
    refine lv_aload_n hx hb dX8_load_59 rfl (lv_at hl 1 rfl) ?_
    refine lv_iconst (v := 0) hx hb dX8_load_60 (by decide) ?_
    refine va_put (D := D) (ci := 8) (v := .int 0) (ty := .int) (C := RX8) (T := TX8) (N := 31) hx hb hts iX8_load_X8 tyX8 tyX8_ok nmX8 hown hK hP hD hS 0 rfl rfl 23 (by decide) (hts (.fieldLink RX8 243 "TapeCalculatorModel" "textSize" "I") (List.mem_of_getElem? (i := 3) rfl)) (fun _ h9 => h9) rfl (by decide +kernel) rfl rfl (Nat.le_of_ble_eq_true rfl) dX8_load_61 (fun H locs hP hD hS => ?_)
    have hP : va_P D vwCl [(m0, .inr (8, [.ref mH, .int 0, .long 0, .int 0, .long 0, .int 0, .int 0, .int 0, .int 0, .int 0, .int 0, .long 0, .int 0, .int 0, .ref mI, .ref mJ, .ref mS, .ref mD, .int 0, .int 0, .int 0, .long 0, .ref mX, .int 0, .int 0, .int (-1), .ref mA, .ref mB, .ref mW, .ref mL, .int 0]))] H := hP
    have hD : va_D A [(m0, .inr (8, [.ref mH, .int 0, .long 0, .int 0, .long 0, .int 0, .int 0, .int 0, .int 0, .int 0, .int 0, .long 0, .int 0, .int 0, .ref mI, .ref mJ, .ref mS, .ref mD, .int 0, .int 0, .int 0, .long 0, .ref mX, .int 0, .int 0, .int (-1), .ref mA, .ref mB, .ref mW, .ref mL, .int 0]))] := hD
    refine lv_aload_n hx hb dX8_load_64 rfl (lv_at hl 1 rfl) ?_
    refine va_get (D := D) (ci := 8) (v := .int (-1)) (C := RX8) (T := TX8) (N := 31) hx hb hts iX8_load_X8 hown hK hP 0 rfl rfl 25 (by decide) (hts (.fieldLink RX8 259 "TapeCalculatorModel" "wrong" "I") (List.mem_of_getElem? (i := 2) rfl)) (fun _ h9 => h9) rfl dX8_load_65 ?_
    refine lv_if_lt (tgt := 79) hx hb dX8_load_68 (by decide) (fun c_68_1 => ?_) (fun c_68_1 => ?_)
    · have t_68_1 := c_68_1
      try simp only [kb_eq0, kb_ne0, lg_cmp_lt, lg_cmp_le, lg_cmp_gt, lg_cmp_ge, lg_cmp_eq] at t_68_1
      try simp only [Int32.lt_iff_toInt_lt, Int32.le_iff_toInt_le, ← Int32.toInt_inj, Int64.lt_iff_toInt_lt, Int64.le_iff_toInt_le, ← Int64.toInt_inj, Int32.toInt_toInt64, Int32.reduceToInt, Int64.reduceToInt] at t_68_1
      refine lv_iconst (v := 0) hx hb dX8_load_79 (by decide) ?_
      refine lv_istore_n (lv' := [(2, .int 0), (1, .int 0), (0, .ref m0)]) hx hb dX8_load_80 rfl hl (by decide) rfl (fun ls hl => ?_)
      refine lv_iload_n hx hb dX8_load_81 rfl (lv_at hl 0 rfl) ?_
      refine lv_iload_n hx hb dX8_load_82 rfl (lv_at hl 1 rfl) ?_
      refine lv_icmp_ge (tgt := 138) hx hb dX8_load_83 (by decide) (fun c_83_2 => ?_) (fun c_83_2 => ?_)
      · have t_83_2 := c_83_2
        try simp only [kb_eq0, kb_ne0, lg_cmp_lt, lg_cmp_le, lg_cmp_gt, lg_cmp_ge, lg_cmp_eq] at t_83_2
        try simp only [Int32.lt_iff_toInt_lt, Int32.le_iff_toInt_le, ← Int32.toInt_inj, Int64.lt_iff_toInt_lt, Int64.le_iff_toInt_le, ← Int64.toInt_inj, Int32.toInt_toInt64, Int32.reduceToInt, Int64.reduceToInt] at t_83_2
        refine lv_iload_n hx hb dX8_load_138 rfl (lv_at hl 1 rfl) ?_
        refine kIret (u := ()) hx hb hr rfl hlocks hS dX8_load_139 ?_ (hP.sub [0] rfl) (hD.sub [0] (by decide) rfl)
        exact rfl
      · exact absurd (by decide) c_83_2
    · exact absurd (by decide) c_68_1
  · exact absurd (by decide) c_20_0
set_option maxRecDepth 100000 in
theorem iX8_digest_X8 : ∀ w ∈ wsX80, w ∈ wsX8_digest := fun w h => (goodIn_r (big := wsX8_digest) wsX80 [24, 25, 26, 27, 28, 29, 30, 31, 32, 33, 34, 35, 36, 37, 38, 39, 40, 41, 42, 43, 44, 45, 46, 47, 48, 49, 50, 51, 52, 53, 54] rfl (by decide +kernel) w h).1
set_option maxRecDepth 100000 in
set_option maxHeartbeats 4000000 in
theorem r_digest (l : Launch) (D : va_G) (cI cL cB cZ cT : ClassId) (sz : Nat) (m0 mH mI mJ mS mD mX mA mB mW mL : Nat) : kM (S := Unit) l yX8_digest wsX8_digest ({ frames := 1, cells := 0, slots := 0, locals := 21 }) D (kT cI cL cB cZ cT) [.ref m0] [(m0, .inr (8, [.ref mH, .int 0, .long 0, .int 0, .long 0, .int 0, .int 0, .int 0, .int 0, .int 0, .int 0, .long 0, .int 0, .int 0, .ref mI, .ref mJ, .ref mS, .ref mD, .int 0, .int 0, .int 0, .long 0, .ref mX, .int 0, .int 0, .int 0, .ref mA, .ref mB, .ref mW, .ref mL, .int 0])), (mH, .inl (cI, 512, .inl (fun _ => 0))), (mJ, .inl (cI, 4, .inl (fun _ => 0))), (mS, .inl (cI, 4, .inl (fun _ => 0))), (mD, .inl (cL, 256, .inr (.inl (fun _ => 0))))] sz eL (fun r _ => r = (kD 786)) (fun _ => [(m0, .inr (8, [.ref mH, .int 0, .long 0, .int 0, .long 0, .int 0, .int 0, .int 0, .int 0, .int 0, .int 0, .long 0, .int 0, .int 0, .ref mI, .ref mJ, .ref mS, .ref mD, .int 0, .int 0, .int 0, .long 0, .ref mX, .int 0, .int 0, .int 0, .ref mA, .ref mB, .ref mW, .ref mL, .int 0])), (mH, .inl (cI, 512, .inl (fun _ => 0))), (mJ, .inl (cI, 4, .inl (fun _ => 0))), (mS, .inl (cI, 4, .inl (fun _ => 0))), (mD, .inl (cL, 256, .inr (.inl (fun _ => 0))))]) 0 0 := by
  refine kStart (cc := cX8_digest) (maxL := 5) (ret := (some .long)) (own := RX8) (by decide) rfl rfl (Nat.le_of_ble_eq_true rfl) ?_
  intro p e s m args below meth c A ls hx hb hr hml hown hts hlocks hnm hsz hA hG hP hD hS hl
  have hK := hG.1
  have hl : lv_has ls 5 [(0, .ref m0)] := hl
  refine lv_ldc2 (v := 17) hx hb hown (hts (.constantLong RX8 291 (17)) (List.mem_of_getElem? (i := 1) rfl)) dX8_digest_0 ?_
  refine lv_lstore_n (lv' := [(1, .long 17), (0, .ref m0)]) hx hb dX8_digest_3 rfl hl (by decide) rfl (fun ls hl => ?_)
  refine lv_iconst (v := 0) hx hb dX8_digest_4 (by decide) ?_
  refine lv_istore_n (lv' := [(3, .int 0), (1, .long 17), (0, .ref m0)]) hx hb dX8_digest_5 rfl hl (by decide) rfl (fun ls hl => ?_)
  have LP : ∀ (k i : Nat) (h : Int64), i + k = 512 → h = kD (0 + i) → ∀ (H : Heap) (locs : List Loc), va_P D vwCl [(m0, .inr (8, [.ref mH, .int 0, .long 0, .int 0, .long 0, .int 0, .int 0, .int 0, .int 0, .int 0, .int 0, .long 0, .int 0, .int 0, .ref mI, .ref mJ, .ref mS, .ref mD, .int 0, .int 0, .int 0, .long 0, .ref mX, .int 0, .int 0, .int 0, .ref mA, .ref mB, .ref mW, .ref mL, .int 0])), (mH, .inl (cI, 512, .inl (fun _ => 0))), (mJ, .inl (cI, 4, .inl (fun _ => 0))), (mS, .inl (cI, 4, .inl (fun _ => 0))), (mD, .inl (cL, 256, .inr (.inl (fun _ => 0))))] H → va_D A [(m0, .inr (8, [.ref mH, .int 0, .long 0, .int 0, .long 0, .int 0, .int 0, .int 0, .int 0, .int 0, .int 0, .long 0, .int 0, .int 0, .ref mI, .ref mJ, .ref mS, .ref mD, .int 0, .int 0, .int 0, .long 0, .ref mX, .int 0, .int 0, .int 0, .ref mA, .ref mB, .ref mW, .ref mL, .int 0])), (mH, .inl (cI, 512, .inl (fun _ => 0))), (mJ, .inl (cI, 4, .inl (fun _ => 0))), (mS, .inl (cI, 4, .inl (fun _ => 0))), (mD, .inl (cL, 256, .inr (.inl (fun _ => 0))))] → va_S A s.heap H locs → ∀ ls : Array Slot, lv_has ls 5 [(3, .int (nI i)), (1, .long h), (0, .ref m0)] → W p l e ({ frames := 1, cells := 0, slots := 0, locals := 21 }) s m args below meth c H locs 0 0 (MQ below (kQ (S := Unit) eL (fun r _ => r = (kD 786)) D (fun _ => [(m0, .inr (8, [.ref mH, .int 0, .long 0, .int 0, .long 0, .int 0, .int 0, .int 0, .int 0, .int 0, .int 0, .long 0, .int 0, .int 0, .ref mI, .ref mJ, .ref mS, .ref mD, .int 0, .int 0, .int 0, .long 0, .ref mX, .int 0, .int 0, .int 0, .ref mA, .ref mB, .ref mW, .ref mL, .int 0])), (mH, .inl (cI, 512, .inl (fun _ => 0))), (mJ, .inl (cI, 4, .inl (fun _ => 0))), (mS, .inl (cI, 4, .inl (fun _ => 0))), (mD, .inl (cL, 256, .inr (.inl (fun _ => 0))))]) A) args s 0 0 A) (F0 m 6 ls []) := by
    intro k
    induction k with
    | zero =>
      intro i h hik hinv H locs hP hD hS ls hl
      have hni := nI_toInt (n := i) (by omega)
      refine lv_iload_n hx hb dX8_digest_6 rfl (lv_at hl 0 rfl) ?_
      refine lv_sipush (v := 512) hx hb dX8_digest_7 (by decide) ?_
      refine lv_icmp_ge (tgt := 33) hx hb dX8_digest_10 (by decide) (fun c_10_0 => ?_) (fun c_10_0 => ?_)
      · have t_10_0 := c_10_0
        try simp only [kb_eq0, kb_ne0, lg_cmp_lt, lg_cmp_le, lg_cmp_gt, lg_cmp_ge, lg_cmp_eq] at t_10_0
        try simp only [Int32.lt_iff_toInt_lt, Int32.le_iff_toInt_le, ← Int32.toInt_inj, Int64.lt_iff_toInt_lt, Int64.le_iff_toInt_le, ← Int64.toInt_inj, Int32.toInt_toInt64, Int32.reduceToInt, Int64.reduceToInt] at t_10_0
        refine lv_iconst (v := 0) hx hb dX8_digest_33 (by decide) ?_
        refine lv_istore_n (lv' := [(3, .int 0), (1, .long h), (0, .ref m0)]) hx hb dX8_digest_34 rfl hl (by decide) rfl (fun ls hl => ?_)
        have LP : ∀ (k i : Nat) (h : Int64), i + k = 10 → h = kD (512 + i) → ∀ (H : Heap) (locs : List Loc), va_P D vwCl [(m0, .inr (8, [.ref mH, .int 0, .long 0, .int 0, .long 0, .int 0, .int 0, .int 0, .int 0, .int 0, .int 0, .long 0, .int 0, .int 0, .ref mI, .ref mJ, .ref mS, .ref mD, .int 0, .int 0, .int 0, .long 0, .ref mX, .int 0, .int 0, .int 0, .ref mA, .ref mB, .ref mW, .ref mL, .int 0])), (mH, .inl (cI, 512, .inl (fun _ => 0))), (mJ, .inl (cI, 4, .inl (fun _ => 0))), (mS, .inl (cI, 4, .inl (fun _ => 0))), (mD, .inl (cL, 256, .inr (.inl (fun _ => 0))))] H → va_D A [(m0, .inr (8, [.ref mH, .int 0, .long 0, .int 0, .long 0, .int 0, .int 0, .int 0, .int 0, .int 0, .int 0, .long 0, .int 0, .int 0, .ref mI, .ref mJ, .ref mS, .ref mD, .int 0, .int 0, .int 0, .long 0, .ref mX, .int 0, .int 0, .int 0, .ref mA, .ref mB, .ref mW, .ref mL, .int 0])), (mH, .inl (cI, 512, .inl (fun _ => 0))), (mJ, .inl (cI, 4, .inl (fun _ => 0))), (mS, .inl (cI, 4, .inl (fun _ => 0))), (mD, .inl (cL, 256, .inr (.inl (fun _ => 0))))] → va_S A s.heap H locs → ∀ ls : Array Slot, lv_has ls 5 [(3, .int (nI i)), (1, .long h), (0, .ref m0)] → W p l e ({ frames := 1, cells := 0, slots := 0, locals := 21 }) s m args below meth c H locs 0 0 (MQ below (kQ (S := Unit) eL (fun r _ => r = (kD 786)) D (fun _ => [(m0, .inr (8, [.ref mH, .int 0, .long 0, .int 0, .long 0, .int 0, .int 0, .int 0, .int 0, .int 0, .int 0, .long 0, .int 0, .int 0, .ref mI, .ref mJ, .ref mS, .ref mD, .int 0, .int 0, .int 0, .long 0, .ref mX, .int 0, .int 0, .int 0, .ref mA, .ref mB, .ref mW, .ref mL, .int 0])), (mH, .inl (cI, 512, .inl (fun _ => 0))), (mJ, .inl (cI, 4, .inl (fun _ => 0))), (mS, .inl (cI, 4, .inl (fun _ => 0))), (mD, .inl (cL, 256, .inr (.inl (fun _ => 0))))]) A) args s 0 0 A) (F0 m 35 ls []) := by
          intro k
          induction k with
          | zero =>
            intro i h hik hinv H locs hP hD hS ls hl
            have hni := nI_toInt (n := i) (by omega)
            refine lv_iload_n hx hb dX8_digest_35 rfl (lv_at hl 0 rfl) ?_
            refine lv_bipush (v := 10) hx hb dX8_digest_36 (by decide) ?_
            refine lv_icmp_ge (tgt := 59) hx hb dX8_digest_38 (by decide) (fun c_38_1 => ?_) (fun c_38_1 => ?_)
            · have t_38_1 := c_38_1
              try simp only [kb_eq0, kb_ne0, lg_cmp_lt, lg_cmp_le, lg_cmp_gt, lg_cmp_ge, lg_cmp_eq] at t_38_1
              try simp only [Int32.lt_iff_toInt_lt, Int32.le_iff_toInt_le, ← Int32.toInt_inj, Int64.lt_iff_toInt_lt, Int64.le_iff_toInt_le, ← Int64.toInt_inj, Int32.toInt_toInt64, Int32.reduceToInt, Int64.reduceToInt] at t_38_1
              refine lv_iconst (v := 0) hx hb dX8_digest_59 (by decide) ?_
              refine lv_istore_n (lv' := [(3, .int 0), (1, .long h), (0, .ref m0)]) hx hb dX8_digest_60 rfl hl (by decide) rfl (fun ls hl => ?_)
              refine lv_iload_n hx hb dX8_digest_61 rfl (lv_at hl 0 rfl) ?_
              refine lv_iconst (v := 4) hx hb dX8_digest_62 (by decide) ?_
              refine lv_icmp_ge (tgt := 138) hx hb dX8_digest_63 (by decide) (fun c_63_2 => ?_) (fun c_63_2 => ?_)
              · exact absurd c_63_2 (by decide)
              · have t_63_2 := c_63_2
                try simp only [kb_eq0, kb_ne0, lg_cmp_lt, lg_cmp_le, lg_cmp_gt, lg_cmp_ge, lg_cmp_eq] at t_63_2
                try simp only [Int32.lt_iff_toInt_lt, Int32.le_iff_toInt_le, ← Int32.toInt_inj, Int64.lt_iff_toInt_lt, Int64.le_iff_toInt_le, ← Int64.toInt_inj, Int32.toInt_toInt64, Int32.reduceToInt, Int64.reduceToInt] at t_63_2
                refine lv_ldc2 (v := 31) hx hb hown (hts (.constantLong RX8 293 (31)) (List.mem_of_getElem? (i := 2) rfl)) dX8_digest_66 ?_
                refine lv_ldc2 (v := 31) hx hb hown (hts (.constantLong RX8 293 (31)) (List.mem_of_getElem? (i := 2) rfl)) dX8_digest_69 ?_
                refine lv_lload_n hx hb dX8_digest_72 rfl (lv_at hl 1 rfl) ?_
                refine lv_lmul hx hb dX8_digest_73 ?_
                refine lv_aload_n hx hb dX8_digest_74 rfl (lv_at hl 2 rfl) ?_
                refine va_get (D := D) (ci := 8) (v := .ref mJ) (C := RX8) (T := TX8) (N := 31) hx hb hts iX8_digest_X8 hown hK hP 0 rfl rfl 15 (by decide) (hts (.fieldLink RX8 17 "TapeCalculatorModel" "items" "[I") (List.mem_of_getElem? (i := 4) rfl)) (fun _ h9 => h9) rfl dX8_digest_75 ?_
                refine lv_iload_n hx hb dX8_digest_78 rfl (lv_at hl 0 rfl) ?_
                refine va_iald hx hb hK hP 2 0 rfl rfl (vp_in_iff.mpr (by decide)) dX8_digest_79 ?_
                refine lv_i2l hx hb dX8_digest_80 rfl ?_
                refine lv_topl (fun x_4 ex_4 => ?_)
                obtain rfl : x_4 = 0 := ex_4.trans (by decide)
                refine lv_ladd hx hb dX8_digest_81 ?_
                refine lv_lmul hx hb dX8_digest_82 ?_
                refine lv_aload_n hx hb dX8_digest_83 rfl (lv_at hl 2 rfl) ?_
                refine va_get (D := D) (ci := 8) (v := .ref mS) (C := RX8) (T := TX8) (N := 31) hx hb hts iX8_digest_X8 hown hK hP 0 rfl rfl 16 (by decide) (hts (.fieldLink RX8 20 "TapeCalculatorModel" "stands" "[I") (List.mem_of_getElem? (i := 5) rfl)) (fun _ h9 => h9) rfl dX8_digest_84 ?_
                refine lv_iload_n hx hb dX8_digest_87 rfl (lv_at hl 0 rfl) ?_
                refine va_iald hx hb hK hP 3 0 rfl rfl (vp_in_iff.mpr (by decide)) dX8_digest_88 ?_
                refine lv_i2l hx hb dX8_digest_89 rfl ?_
                refine lv_topl (fun x_5 ex_5 => ?_)
                obtain rfl : x_5 = 0 := ex_5.trans (by decide)
                refine lv_ladd hx hb dX8_digest_90 ?_
                refine lv_topl (fun x_6 ex_6 => ?_)
                refine lv_lstore_n (lv' := [(1, .long x_6), (3, .int 0), (0, .ref m0)]) hx hb dX8_digest_91 rfl hl (by decide) rfl (fun ls hl => ?_)
                refine lv_iconst (v := 0) hx hb dX8_digest_92 (by decide) ?_
                refine lv_istore (lv' := [(4, .int 0), (1, .long x_6), (3, .int 0), (0, .ref m0)]) hx hb dX8_digest_93 hl (by decide) rfl (fun ls hl => ?_)
                refine lv_iload hx hb dX8_digest_95 (lv_at hl 0 rfl) ?_
                refine lv_aload_n hx hb dX8_digest_97 rfl (lv_at hl 3 rfl) ?_
                refine va_get (D := D) (ci := 8) (v := .ref mJ) (C := RX8) (T := TX8) (N := 31) hx hb hts iX8_digest_X8 hown hK hP 0 rfl rfl 15 (by decide) (hts (.fieldLink RX8 17 "TapeCalculatorModel" "items" "[I") (List.mem_of_getElem? (i := 4) rfl)) (fun _ h9 => h9) rfl dX8_digest_98 ?_
                refine lv_iload_n hx hb dX8_digest_101 rfl (lv_at hl 2 rfl) ?_
                refine va_iald hx hb hK hP 2 0 rfl rfl (vp_in_iff.mpr (by decide)) dX8_digest_102 ?_
                refine lv_icmp_ge (tgt := 132) hx hb dX8_digest_103 (by decide) (fun c_103_6 => ?_) (fun c_103_6 => ?_)
                · have t_103_6 := c_103_6
                  try simp only [kb_eq0, kb_ne0, lg_cmp_lt, lg_cmp_le, lg_cmp_gt, lg_cmp_ge, lg_cmp_eq] at t_103_6
                  try simp only [Int32.lt_iff_toInt_lt, Int32.le_iff_toInt_le, ← Int32.toInt_inj, Int64.lt_iff_toInt_lt, Int64.le_iff_toInt_le, ← Int64.toInt_inj, Int32.toInt_toInt64, Int32.reduceToInt, Int64.reduceToInt] at t_103_6
                  refine lv_iinc (v := 1) (lv' := [(3, .int 1), (4, .int 0), (1, .long x_6), (0, .ref m0)]) hx hb dX8_digest_132 hl (k := 2) rfl (by decide) (by decide) rfl (fun ls hl => ?_)
                  refine lv_goto (tgt := 61) hx hb dX8_digest_135 (by decide) ?_
                  refine lv_iload_n hx hb dX8_digest_61 rfl (lv_at hl 0 rfl) ?_
                  refine lv_iconst (v := 4) hx hb dX8_digest_62 (by decide) ?_
                  refine lv_icmp_ge (tgt := 138) hx hb dX8_digest_63 (by decide) (fun c_63_7 => ?_) (fun c_63_7 => ?_)
                  · exact absurd c_63_7 (by decide)
                  · have t_63_7 := c_63_7
                    try simp only [kb_eq0, kb_ne0, lg_cmp_lt, lg_cmp_le, lg_cmp_gt, lg_cmp_ge, lg_cmp_eq] at t_63_7
                    try simp only [Int32.lt_iff_toInt_lt, Int32.le_iff_toInt_le, ← Int32.toInt_inj, Int64.lt_iff_toInt_lt, Int64.le_iff_toInt_le, ← Int64.toInt_inj, Int32.toInt_toInt64, Int32.reduceToInt, Int64.reduceToInt] at t_63_7
                    refine lv_ldc2 (v := 31) hx hb hown (hts (.constantLong RX8 293 (31)) (List.mem_of_getElem? (i := 2) rfl)) dX8_digest_66 ?_
                    refine lv_ldc2 (v := 31) hx hb hown (hts (.constantLong RX8 293 (31)) (List.mem_of_getElem? (i := 2) rfl)) dX8_digest_69 ?_
                    refine lv_lload_n hx hb dX8_digest_72 rfl (lv_at hl 2 rfl) ?_
                    refine lv_lmul hx hb dX8_digest_73 ?_
                    refine lv_aload_n hx hb dX8_digest_74 rfl (lv_at hl 3 rfl) ?_
                    refine va_get (D := D) (ci := 8) (v := .ref mJ) (C := RX8) (T := TX8) (N := 31) hx hb hts iX8_digest_X8 hown hK hP 0 rfl rfl 15 (by decide) (hts (.fieldLink RX8 17 "TapeCalculatorModel" "items" "[I") (List.mem_of_getElem? (i := 4) rfl)) (fun _ h9 => h9) rfl dX8_digest_75 ?_
                    refine lv_iload_n hx hb dX8_digest_78 rfl (lv_at hl 0 rfl) ?_
                    refine va_iald hx hb hK hP 2 0 rfl rfl (vp_in_iff.mpr (by decide)) dX8_digest_79 ?_
                    refine lv_i2l hx hb dX8_digest_80 rfl ?_
                    refine lv_topl (fun x_9 ex_9 => ?_)
                    obtain rfl : x_9 = 0 := ex_9.trans (by decide)
                    refine lv_ladd hx hb dX8_digest_81 ?_
                    refine lv_lmul hx hb dX8_digest_82 ?_
                    refine lv_aload_n hx hb dX8_digest_83 rfl (lv_at hl 3 rfl) ?_
                    refine va_get (D := D) (ci := 8) (v := .ref mS) (C := RX8) (T := TX8) (N := 31) hx hb hts iX8_digest_X8 hown hK hP 0 rfl rfl 16 (by decide) (hts (.fieldLink RX8 20 "TapeCalculatorModel" "stands" "[I") (List.mem_of_getElem? (i := 5) rfl)) (fun _ h9 => h9) rfl dX8_digest_84 ?_
                    refine lv_iload_n hx hb dX8_digest_87 rfl (lv_at hl 0 rfl) ?_
                    refine va_iald hx hb hK hP 3 0 rfl rfl (vp_in_iff.mpr (by decide)) dX8_digest_88 ?_
                    refine lv_i2l hx hb dX8_digest_89 rfl ?_
                    refine lv_topl (fun x_10 ex_10 => ?_)
                    obtain rfl : x_10 = 0 := ex_10.trans (by decide)
                    refine lv_ladd hx hb dX8_digest_90 ?_
                    refine lv_topl (fun x_11 ex_11 => ?_)
                    refine lv_lstore_n (lv' := [(1, .long x_11), (3, .int 1), (4, .int 0), (0, .ref m0)]) hx hb dX8_digest_91 rfl hl (by decide) rfl (fun ls hl => ?_)
                    refine lv_iconst (v := 0) hx hb dX8_digest_92 (by decide) ?_
                    refine lv_istore (lv' := [(4, .int 0), (1, .long x_11), (3, .int 1), (0, .ref m0)]) hx hb dX8_digest_93 hl (by decide) rfl (fun ls hl => ?_)
                    refine lv_iload hx hb dX8_digest_95 (lv_at hl 0 rfl) ?_
                    refine lv_aload_n hx hb dX8_digest_97 rfl (lv_at hl 3 rfl) ?_
                    refine va_get (D := D) (ci := 8) (v := .ref mJ) (C := RX8) (T := TX8) (N := 31) hx hb hts iX8_digest_X8 hown hK hP 0 rfl rfl 15 (by decide) (hts (.fieldLink RX8 17 "TapeCalculatorModel" "items" "[I") (List.mem_of_getElem? (i := 4) rfl)) (fun _ h9 => h9) rfl dX8_digest_98 ?_
                    refine lv_iload_n hx hb dX8_digest_101 rfl (lv_at hl 2 rfl) ?_
                    refine va_iald hx hb hK hP 2 0 rfl rfl (vp_in_iff.mpr (by decide)) dX8_digest_102 ?_
                    refine lv_icmp_ge (tgt := 132) hx hb dX8_digest_103 (by decide) (fun c_103_11 => ?_) (fun c_103_11 => ?_)
                    · have t_103_11 := c_103_11
                      try simp only [kb_eq0, kb_ne0, lg_cmp_lt, lg_cmp_le, lg_cmp_gt, lg_cmp_ge, lg_cmp_eq] at t_103_11
                      try simp only [Int32.lt_iff_toInt_lt, Int32.le_iff_toInt_le, ← Int32.toInt_inj, Int64.lt_iff_toInt_lt, Int64.le_iff_toInt_le, ← Int64.toInt_inj, Int32.toInt_toInt64, Int32.reduceToInt, Int64.reduceToInt] at t_103_11
                      refine lv_iinc (v := 2) (lv' := [(3, .int 2), (4, .int 0), (1, .long x_11), (0, .ref m0)]) hx hb dX8_digest_132 hl (k := 2) rfl (by decide) (by decide) rfl (fun ls hl => ?_)
                      refine lv_goto (tgt := 61) hx hb dX8_digest_135 (by decide) ?_
                      refine lv_iload_n hx hb dX8_digest_61 rfl (lv_at hl 0 rfl) ?_
                      refine lv_iconst (v := 4) hx hb dX8_digest_62 (by decide) ?_
                      refine lv_icmp_ge (tgt := 138) hx hb dX8_digest_63 (by decide) (fun c_63_12 => ?_) (fun c_63_12 => ?_)
                      · exact absurd c_63_12 (by decide)
                      · have t_63_12 := c_63_12
                        try simp only [kb_eq0, kb_ne0, lg_cmp_lt, lg_cmp_le, lg_cmp_gt, lg_cmp_ge, lg_cmp_eq] at t_63_12
                        try simp only [Int32.lt_iff_toInt_lt, Int32.le_iff_toInt_le, ← Int32.toInt_inj, Int64.lt_iff_toInt_lt, Int64.le_iff_toInt_le, ← Int64.toInt_inj, Int32.toInt_toInt64, Int32.reduceToInt, Int64.reduceToInt] at t_63_12
                        refine lv_ldc2 (v := 31) hx hb hown (hts (.constantLong RX8 293 (31)) (List.mem_of_getElem? (i := 2) rfl)) dX8_digest_66 ?_
                        refine lv_ldc2 (v := 31) hx hb hown (hts (.constantLong RX8 293 (31)) (List.mem_of_getElem? (i := 2) rfl)) dX8_digest_69 ?_
                        refine lv_lload_n hx hb dX8_digest_72 rfl (lv_at hl 2 rfl) ?_
                        refine lv_lmul hx hb dX8_digest_73 ?_
                        refine lv_aload_n hx hb dX8_digest_74 rfl (lv_at hl 3 rfl) ?_
                        refine va_get (D := D) (ci := 8) (v := .ref mJ) (C := RX8) (T := TX8) (N := 31) hx hb hts iX8_digest_X8 hown hK hP 0 rfl rfl 15 (by decide) (hts (.fieldLink RX8 17 "TapeCalculatorModel" "items" "[I") (List.mem_of_getElem? (i := 4) rfl)) (fun _ h9 => h9) rfl dX8_digest_75 ?_
                        refine lv_iload_n hx hb dX8_digest_78 rfl (lv_at hl 0 rfl) ?_
                        refine va_iald hx hb hK hP 2 0 rfl rfl (vp_in_iff.mpr (by decide)) dX8_digest_79 ?_
                        refine lv_i2l hx hb dX8_digest_80 rfl ?_
                        refine lv_topl (fun x_14 ex_14 => ?_)
                        obtain rfl : x_14 = 0 := ex_14.trans (by decide)
                        refine lv_ladd hx hb dX8_digest_81 ?_
                        refine lv_lmul hx hb dX8_digest_82 ?_
                        refine lv_aload_n hx hb dX8_digest_83 rfl (lv_at hl 3 rfl) ?_
                        refine va_get (D := D) (ci := 8) (v := .ref mS) (C := RX8) (T := TX8) (N := 31) hx hb hts iX8_digest_X8 hown hK hP 0 rfl rfl 16 (by decide) (hts (.fieldLink RX8 20 "TapeCalculatorModel" "stands" "[I") (List.mem_of_getElem? (i := 5) rfl)) (fun _ h9 => h9) rfl dX8_digest_84 ?_
                        refine lv_iload_n hx hb dX8_digest_87 rfl (lv_at hl 0 rfl) ?_
                        refine va_iald hx hb hK hP 3 0 rfl rfl (vp_in_iff.mpr (by decide)) dX8_digest_88 ?_
                        refine lv_i2l hx hb dX8_digest_89 rfl ?_
                        refine lv_topl (fun x_15 ex_15 => ?_)
                        obtain rfl : x_15 = 0 := ex_15.trans (by decide)
                        refine lv_ladd hx hb dX8_digest_90 ?_
                        refine lv_topl (fun x_16 ex_16 => ?_)
                        refine lv_lstore_n (lv' := [(1, .long x_16), (3, .int 2), (4, .int 0), (0, .ref m0)]) hx hb dX8_digest_91 rfl hl (by decide) rfl (fun ls hl => ?_)
                        refine lv_iconst (v := 0) hx hb dX8_digest_92 (by decide) ?_
                        refine lv_istore (lv' := [(4, .int 0), (1, .long x_16), (3, .int 2), (0, .ref m0)]) hx hb dX8_digest_93 hl (by decide) rfl (fun ls hl => ?_)
                        refine lv_iload hx hb dX8_digest_95 (lv_at hl 0 rfl) ?_
                        refine lv_aload_n hx hb dX8_digest_97 rfl (lv_at hl 3 rfl) ?_
                        refine va_get (D := D) (ci := 8) (v := .ref mJ) (C := RX8) (T := TX8) (N := 31) hx hb hts iX8_digest_X8 hown hK hP 0 rfl rfl 15 (by decide) (hts (.fieldLink RX8 17 "TapeCalculatorModel" "items" "[I") (List.mem_of_getElem? (i := 4) rfl)) (fun _ h9 => h9) rfl dX8_digest_98 ?_
                        refine lv_iload_n hx hb dX8_digest_101 rfl (lv_at hl 2 rfl) ?_
                        refine va_iald hx hb hK hP 2 0 rfl rfl (vp_in_iff.mpr (by decide)) dX8_digest_102 ?_
                        refine lv_icmp_ge (tgt := 132) hx hb dX8_digest_103 (by decide) (fun c_103_16 => ?_) (fun c_103_16 => ?_)
                        · have t_103_16 := c_103_16
                          try simp only [kb_eq0, kb_ne0, lg_cmp_lt, lg_cmp_le, lg_cmp_gt, lg_cmp_ge, lg_cmp_eq] at t_103_16
                          try simp only [Int32.lt_iff_toInt_lt, Int32.le_iff_toInt_le, ← Int32.toInt_inj, Int64.lt_iff_toInt_lt, Int64.le_iff_toInt_le, ← Int64.toInt_inj, Int32.toInt_toInt64, Int32.reduceToInt, Int64.reduceToInt] at t_103_16
                          refine lv_iinc (v := 3) (lv' := [(3, .int 3), (4, .int 0), (1, .long x_16), (0, .ref m0)]) hx hb dX8_digest_132 hl (k := 2) rfl (by decide) (by decide) rfl (fun ls hl => ?_)
                          refine lv_goto (tgt := 61) hx hb dX8_digest_135 (by decide) ?_
                          refine lv_iload_n hx hb dX8_digest_61 rfl (lv_at hl 0 rfl) ?_
                          refine lv_iconst (v := 4) hx hb dX8_digest_62 (by decide) ?_
                          refine lv_icmp_ge (tgt := 138) hx hb dX8_digest_63 (by decide) (fun c_63_17 => ?_) (fun c_63_17 => ?_)
                          · exact absurd c_63_17 (by decide)
                          · have t_63_17 := c_63_17
                            try simp only [kb_eq0, kb_ne0, lg_cmp_lt, lg_cmp_le, lg_cmp_gt, lg_cmp_ge, lg_cmp_eq] at t_63_17
                            try simp only [Int32.lt_iff_toInt_lt, Int32.le_iff_toInt_le, ← Int32.toInt_inj, Int64.lt_iff_toInt_lt, Int64.le_iff_toInt_le, ← Int64.toInt_inj, Int32.toInt_toInt64, Int32.reduceToInt, Int64.reduceToInt] at t_63_17
                            refine lv_ldc2 (v := 31) hx hb hown (hts (.constantLong RX8 293 (31)) (List.mem_of_getElem? (i := 2) rfl)) dX8_digest_66 ?_
                            refine lv_ldc2 (v := 31) hx hb hown (hts (.constantLong RX8 293 (31)) (List.mem_of_getElem? (i := 2) rfl)) dX8_digest_69 ?_
                            refine lv_lload_n hx hb dX8_digest_72 rfl (lv_at hl 2 rfl) ?_
                            refine lv_lmul hx hb dX8_digest_73 ?_
                            refine lv_aload_n hx hb dX8_digest_74 rfl (lv_at hl 3 rfl) ?_
                            refine va_get (D := D) (ci := 8) (v := .ref mJ) (C := RX8) (T := TX8) (N := 31) hx hb hts iX8_digest_X8 hown hK hP 0 rfl rfl 15 (by decide) (hts (.fieldLink RX8 17 "TapeCalculatorModel" "items" "[I") (List.mem_of_getElem? (i := 4) rfl)) (fun _ h9 => h9) rfl dX8_digest_75 ?_
                            refine lv_iload_n hx hb dX8_digest_78 rfl (lv_at hl 0 rfl) ?_
                            refine va_iald hx hb hK hP 2 0 rfl rfl (vp_in_iff.mpr (by decide)) dX8_digest_79 ?_
                            refine lv_i2l hx hb dX8_digest_80 rfl ?_
                            refine lv_topl (fun x_19 ex_19 => ?_)
                            obtain rfl : x_19 = 0 := ex_19.trans (by decide)
                            refine lv_ladd hx hb dX8_digest_81 ?_
                            refine lv_lmul hx hb dX8_digest_82 ?_
                            refine lv_aload_n hx hb dX8_digest_83 rfl (lv_at hl 3 rfl) ?_
                            refine va_get (D := D) (ci := 8) (v := .ref mS) (C := RX8) (T := TX8) (N := 31) hx hb hts iX8_digest_X8 hown hK hP 0 rfl rfl 16 (by decide) (hts (.fieldLink RX8 20 "TapeCalculatorModel" "stands" "[I") (List.mem_of_getElem? (i := 5) rfl)) (fun _ h9 => h9) rfl dX8_digest_84 ?_
                            refine lv_iload_n hx hb dX8_digest_87 rfl (lv_at hl 0 rfl) ?_
                            refine va_iald hx hb hK hP 3 0 rfl rfl (vp_in_iff.mpr (by decide)) dX8_digest_88 ?_
                            refine lv_i2l hx hb dX8_digest_89 rfl ?_
                            refine lv_topl (fun x_20 ex_20 => ?_)
                            obtain rfl : x_20 = 0 := ex_20.trans (by decide)
                            refine lv_ladd hx hb dX8_digest_90 ?_
                            refine lv_topl (fun x_21 ex_21 => ?_)
                            refine lv_lstore_n (lv' := [(1, .long x_21), (3, .int 3), (4, .int 0), (0, .ref m0)]) hx hb dX8_digest_91 rfl hl (by decide) rfl (fun ls hl => ?_)
                            refine lv_iconst (v := 0) hx hb dX8_digest_92 (by decide) ?_
                            refine lv_istore (lv' := [(4, .int 0), (1, .long x_21), (3, .int 3), (0, .ref m0)]) hx hb dX8_digest_93 hl (by decide) rfl (fun ls hl => ?_)
                            refine lv_iload hx hb dX8_digest_95 (lv_at hl 0 rfl) ?_
                            refine lv_aload_n hx hb dX8_digest_97 rfl (lv_at hl 3 rfl) ?_
                            refine va_get (D := D) (ci := 8) (v := .ref mJ) (C := RX8) (T := TX8) (N := 31) hx hb hts iX8_digest_X8 hown hK hP 0 rfl rfl 15 (by decide) (hts (.fieldLink RX8 17 "TapeCalculatorModel" "items" "[I") (List.mem_of_getElem? (i := 4) rfl)) (fun _ h9 => h9) rfl dX8_digest_98 ?_
                            refine lv_iload_n hx hb dX8_digest_101 rfl (lv_at hl 2 rfl) ?_
                            refine va_iald hx hb hK hP 2 0 rfl rfl (vp_in_iff.mpr (by decide)) dX8_digest_102 ?_
                            refine lv_icmp_ge (tgt := 132) hx hb dX8_digest_103 (by decide) (fun c_103_21 => ?_) (fun c_103_21 => ?_)
                            · have t_103_21 := c_103_21
                              try simp only [kb_eq0, kb_ne0, lg_cmp_lt, lg_cmp_le, lg_cmp_gt, lg_cmp_ge, lg_cmp_eq] at t_103_21
                              try simp only [Int32.lt_iff_toInt_lt, Int32.le_iff_toInt_le, ← Int32.toInt_inj, Int64.lt_iff_toInt_lt, Int64.le_iff_toInt_le, ← Int64.toInt_inj, Int32.toInt_toInt64, Int32.reduceToInt, Int64.reduceToInt] at t_103_21
                              refine lv_iinc (v := 4) (lv' := [(3, .int 4), (4, .int 0), (1, .long x_21), (0, .ref m0)]) hx hb dX8_digest_132 hl (k := 2) rfl (by decide) (by decide) rfl (fun ls hl => ?_)
                              refine lv_goto (tgt := 61) hx hb dX8_digest_135 (by decide) ?_
                              refine lv_iload_n hx hb dX8_digest_61 rfl (lv_at hl 0 rfl) ?_
                              refine lv_iconst (v := 4) hx hb dX8_digest_62 (by decide) ?_
                              refine lv_icmp_ge (tgt := 138) hx hb dX8_digest_63 (by decide) (fun c_63_22 => ?_) (fun c_63_22 => ?_)
                              · have t_63_22 := c_63_22
                                try simp only [kb_eq0, kb_ne0, lg_cmp_lt, lg_cmp_le, lg_cmp_gt, lg_cmp_ge, lg_cmp_eq] at t_63_22
                                try simp only [Int32.lt_iff_toInt_lt, Int32.le_iff_toInt_le, ← Int32.toInt_inj, Int64.lt_iff_toInt_lt, Int64.le_iff_toInt_le, ← Int64.toInt_inj, Int32.toInt_toInt64, Int32.reduceToInt, Int64.reduceToInt] at t_63_22
                                refine lv_iconst (v := 0) hx hb dX8_digest_138 (by decide) ?_
                                refine lv_istore_n (lv' := [(3, .int 0), (4, .int 0), (1, .long x_21), (0, .ref m0)]) hx hb dX8_digest_139 rfl hl (by decide) rfl (fun ls hl => ?_)
                                have LP : ∀ (k i : Nat) (h : Int64), i + k = 256 → h = kD (530 + i) → ∀ (H : Heap) (locs : List Loc), va_P D vwCl [(m0, .inr (8, [.ref mH, .int 0, .long 0, .int 0, .long 0, .int 0, .int 0, .int 0, .int 0, .int 0, .int 0, .long 0, .int 0, .int 0, .ref mI, .ref mJ, .ref mS, .ref mD, .int 0, .int 0, .int 0, .long 0, .ref mX, .int 0, .int 0, .int 0, .ref mA, .ref mB, .ref mW, .ref mL, .int 0])), (mH, .inl (cI, 512, .inl (fun _ => 0))), (mJ, .inl (cI, 4, .inl (fun _ => 0))), (mS, .inl (cI, 4, .inl (fun _ => 0))), (mD, .inl (cL, 256, .inr (.inl (fun _ => 0))))] H → va_D A [(m0, .inr (8, [.ref mH, .int 0, .long 0, .int 0, .long 0, .int 0, .int 0, .int 0, .int 0, .int 0, .int 0, .long 0, .int 0, .int 0, .ref mI, .ref mJ, .ref mS, .ref mD, .int 0, .int 0, .int 0, .long 0, .ref mX, .int 0, .int 0, .int 0, .ref mA, .ref mB, .ref mW, .ref mL, .int 0])), (mH, .inl (cI, 512, .inl (fun _ => 0))), (mJ, .inl (cI, 4, .inl (fun _ => 0))), (mS, .inl (cI, 4, .inl (fun _ => 0))), (mD, .inl (cL, 256, .inr (.inl (fun _ => 0))))] → va_S A s.heap H locs → ∀ ls : Array Slot, lv_has ls 5 [(3, .int (nI i)), (4, .int 0), (1, .long h), (0, .ref m0)] → W p l e ({ frames := 1, cells := 0, slots := 0, locals := 21 }) s m args below meth c H locs 0 0 (MQ below (kQ (S := Unit) eL (fun r _ => r = (kD 786)) D (fun _ => [(m0, .inr (8, [.ref mH, .int 0, .long 0, .int 0, .long 0, .int 0, .int 0, .int 0, .int 0, .int 0, .int 0, .long 0, .int 0, .int 0, .ref mI, .ref mJ, .ref mS, .ref mD, .int 0, .int 0, .int 0, .long 0, .ref mX, .int 0, .int 0, .int 0, .ref mA, .ref mB, .ref mW, .ref mL, .int 0])), (mH, .inl (cI, 512, .inl (fun _ => 0))), (mJ, .inl (cI, 4, .inl (fun _ => 0))), (mS, .inl (cI, 4, .inl (fun _ => 0))), (mD, .inl (cL, 256, .inr (.inl (fun _ => 0))))]) A) args s 0 0 A) (F0 m 140 ls []) := by
                                  intro k
                                  induction k with
                                  | zero =>
                                    intro i h hik hinv H locs hP hD hS ls hl
                                    have hni := nI_toInt (n := i) (by omega)
                                    refine lv_iload_n hx hb dX8_digest_140 rfl (lv_at hl 0 rfl) ?_
                                    refine lv_sipush (v := 256) hx hb dX8_digest_141 (by decide) ?_
                                    refine lv_icmp_ge (tgt := 166) hx hb dX8_digest_144 (by decide) (fun c_144_23 => ?_) (fun c_144_23 => ?_)
                                    · have t_144_23 := c_144_23
                                      try simp only [kb_eq0, kb_ne0, lg_cmp_lt, lg_cmp_le, lg_cmp_gt, lg_cmp_ge, lg_cmp_eq] at t_144_23
                                      try simp only [Int32.lt_iff_toInt_lt, Int32.le_iff_toInt_le, ← Int32.toInt_inj, Int64.lt_iff_toInt_lt, Int64.le_iff_toInt_le, ← Int64.toInt_inj, Int32.toInt_toInt64, Int32.reduceToInt, Int64.reduceToInt] at t_144_23
                                      refine lv_lload_n hx hb dX8_digest_166 rfl (lv_at hl 2 rfl) ?_
                                      refine kLret (u := ()) hx hb hr hlocks hS dX8_digest_167 ?_ (hP.sub [0, 1, 2, 3, 4] rfl) (hD.sub [0, 1, 2, 3, 4] (by decide) rfl)
                                      exact kD_e hinv (by omega)
                                    · have t_144_23 := c_144_23
                                      try simp only [kb_eq0, kb_ne0, lg_cmp_lt, lg_cmp_le, lg_cmp_gt, lg_cmp_ge, lg_cmp_eq] at t_144_23
                                      try simp only [Int32.lt_iff_toInt_lt, Int32.le_iff_toInt_le, ← Int32.toInt_inj, Int64.lt_iff_toInt_lt, Int64.le_iff_toInt_le, ← Int64.toInt_inj, Int32.toInt_toInt64, Int32.reduceToInt, Int64.reduceToInt] at t_144_23
                                      omega
                                  | succ k ih =>
                                    intro i h hik hinv H locs hP hD hS ls hl
                                    have hni := nI_toInt (n := i) (by omega)
                                    refine lv_iload_n hx hb dX8_digest_140 rfl (lv_at hl 0 rfl) ?_
                                    refine lv_sipush (v := 256) hx hb dX8_digest_141 (by decide) ?_
                                    refine lv_icmp_ge (tgt := 166) hx hb dX8_digest_144 (by decide) (fun c_144_24 => ?_) (fun c_144_24 => ?_)
                                    · have t_144_24 := c_144_24
                                      try simp only [kb_eq0, kb_ne0, lg_cmp_lt, lg_cmp_le, lg_cmp_gt, lg_cmp_ge, lg_cmp_eq] at t_144_24
                                      try simp only [Int32.lt_iff_toInt_lt, Int32.le_iff_toInt_le, ← Int32.toInt_inj, Int64.lt_iff_toInt_lt, Int64.le_iff_toInt_le, ← Int64.toInt_inj, Int32.toInt_toInt64, Int32.reduceToInt, Int64.reduceToInt] at t_144_24
                                      omega
                                    · have t_144_24 := c_144_24
                                      try simp only [kb_eq0, kb_ne0, lg_cmp_lt, lg_cmp_le, lg_cmp_gt, lg_cmp_ge, lg_cmp_eq] at t_144_24
                                      try simp only [Int32.lt_iff_toInt_lt, Int32.le_iff_toInt_le, ← Int32.toInt_inj, Int64.lt_iff_toInt_lt, Int64.le_iff_toInt_le, ← Int64.toInt_inj, Int32.toInt_toInt64, Int32.reduceToInt, Int64.reduceToInt] at t_144_24
                                      refine lv_ldc2 (v := 31) hx hb hown (hts (.constantLong RX8 293 (31)) (List.mem_of_getElem? (i := 2) rfl)) dX8_digest_147 ?_
                                      refine lv_lload_n hx hb dX8_digest_150 rfl (lv_at hl 2 rfl) ?_
                                      refine lv_lmul hx hb dX8_digest_151 ?_
                                      refine lv_aload_n hx hb dX8_digest_152 rfl (lv_at hl 3 rfl) ?_
                                      refine va_get (D := D) (ci := 8) (v := .ref mD) (C := RX8) (T := TX8) (N := 31) hx hb hts iX8_digest_X8 hown hK hP 0 rfl rfl 17 (by decide) (hts (.fieldLink RX8 23 "TapeCalculatorModel" "drum" "[J") (List.mem_of_getElem? (i := 7) rfl)) (fun _ h9 => h9) rfl dX8_digest_153 ?_
                                      refine lv_iload_n hx hb dX8_digest_156 rfl (lv_at hl 0 rfl) ?_
                                      refine va_lald hx hb hK hP 4 1 rfl rfl (vp_in_iff.mpr (by omega)) dX8_digest_157 ?_
                                      refine lv_ladd hx hb dX8_digest_158 ?_
                                      refine lv_topl (fun x_26 ex_26 => ?_)
                                      refine lv_lstore_n (lv' := [(1, .long x_26), (3, .int (nI i)), (4, .int 0), (0, .ref m0)]) hx hb dX8_digest_159 rfl hl (by decide) rfl (fun ls hl => ?_)
                                      refine lv_iinc (v := nI (i + 1)) (lv' := [(3, .int (nI (i + 1))), (1, .long x_26), (4, .int 0), (0, .ref m0)]) hx hb dX8_digest_160 hl (k := 1) rfl (nI_1 i) (by decide) rfl (fun ls hl => ?_)
                                      refine lv_goto (tgt := 140) hx hb dX8_digest_163 (by decide) ?_
                                      exact ih (i + 1) x_26 (by omega) (kD_e (kD_s ex_26 hinv) (by omega)) _ _ (hP.sub [0, 1, 2, 3, 4] rfl) (hD.sub [0, 1, 2, 3, 4] (by decide) rfl) hS ls (lv_sub hl [0, 2, 1, 3] rfl)
                                exact LP 256 0 x_21 (by omega) (kD_e (kD_2 ex_21 (kD_2 ex_16 (kD_2 ex_11 (kD_2 ex_6 hinv)))) (by omega)) _ _ hP hD hS ls hl
                              · exact absurd (by decide) c_63_22
                            · exact absurd (by decide) c_103_21
                        · exact absurd (by decide) c_103_16
                    · exact absurd (by decide) c_103_11
                · exact absurd (by decide) c_103_6
            · have t_38_1 := c_38_1
              try simp only [kb_eq0, kb_ne0, lg_cmp_lt, lg_cmp_le, lg_cmp_gt, lg_cmp_ge, lg_cmp_eq] at t_38_1
              try simp only [Int32.lt_iff_toInt_lt, Int32.le_iff_toInt_le, ← Int32.toInt_inj, Int64.lt_iff_toInt_lt, Int64.le_iff_toInt_le, ← Int64.toInt_inj, Int32.toInt_toInt64, Int32.reduceToInt, Int64.reduceToInt] at t_38_1
              omega
          | succ k ih =>
            intro i h hik hinv H locs hP hD hS ls hl
            have hni := nI_toInt (n := i) (by omega)
            refine lv_iload_n hx hb dX8_digest_35 rfl (lv_at hl 0 rfl) ?_
            refine lv_bipush (v := 10) hx hb dX8_digest_36 (by decide) ?_
            refine lv_icmp_ge (tgt := 59) hx hb dX8_digest_38 (by decide) (fun c_38_26 => ?_) (fun c_38_26 => ?_)
            · have t_38_26 := c_38_26
              try simp only [kb_eq0, kb_ne0, lg_cmp_lt, lg_cmp_le, lg_cmp_gt, lg_cmp_ge, lg_cmp_eq] at t_38_26
              try simp only [Int32.lt_iff_toInt_lt, Int32.le_iff_toInt_le, ← Int32.toInt_inj, Int64.lt_iff_toInt_lt, Int64.le_iff_toInt_le, ← Int64.toInt_inj, Int32.toInt_toInt64, Int32.reduceToInt, Int64.reduceToInt] at t_38_26
              omega
            · have t_38_26 := c_38_26
              try simp only [kb_eq0, kb_ne0, lg_cmp_lt, lg_cmp_le, lg_cmp_gt, lg_cmp_ge, lg_cmp_eq] at t_38_26
              try simp only [Int32.lt_iff_toInt_lt, Int32.le_iff_toInt_le, ← Int32.toInt_inj, Int64.lt_iff_toInt_lt, Int64.le_iff_toInt_le, ← Int64.toInt_inj, Int32.toInt_toInt64, Int32.reduceToInt, Int64.reduceToInt] at t_38_26
              refine lv_ldc2 (v := 31) hx hb hown (hts (.constantLong RX8 293 (31)) (List.mem_of_getElem? (i := 2) rfl)) dX8_digest_41 ?_
              refine lv_lload_n hx hb dX8_digest_44 rfl (lv_at hl 1 rfl) ?_
              refine lv_lmul hx hb dX8_digest_45 ?_
              refine lv_aload_n hx hb dX8_digest_46 rfl (lv_at hl 2 rfl) ?_
              refine lv_iload_n hx hb dX8_digest_47 rfl (lv_at hl 0 rfl) ?_
              refine kCallL (wr := [(mH, .inl (cI, 512, .inl (fun _ => 0))), (mJ, .inl (cI, 4, .inl (fun _ => 0))), (mS, .inl (cI, 4, .inl (fun _ => 0))), (mD, .inl (cL, 256, .inr (.inl (fun _ => 0))))]) (va_runV (As := [.int (nI i)]) (rest := [.long (31 * h)]) ⟨hx, hb, hml, hown, hts⟩ (r_told l D cI cL cB cZ cT _ m0 mH mI mJ mS mD mX mA mB mW mL (nI i)) (cwV 1 hts gX8_digest_X8_told rfl rfl rfl (by decide +kernel) ⟨Nat.le_of_ble_eq_true rfl, Nat.le_of_ble_eq_true rfl⟩) (kPreV hG hP hD [0] rfl (by decide) 0 8 rfl rfl rfl) rfl rfl hl.1 rfl (lv_room (Nat.le_of_ble_eq_true rfl)) dX8_digest_48 ⟨Nat.le_of_ble_eq_true rfl, Nat.le_of_ble_eq_true rfl⟩) hA hP hD hS [0] [1, 2, 3, 4] rfl rfl (by decide) (by decide) (fun r_28 u_r_28 H locs wr_28 hP hD hS => ?_)
              have hP : va_P D vwCl [(mH, .inl (cI, 512, .inl (fun _ => 0))), (mJ, .inl (cI, 4, .inl (fun _ => 0))), (mS, .inl (cI, 4, .inl (fun _ => 0))), (mD, .inl (cL, 256, .inr (.inl (fun _ => 0)))), (m0, .inr (8, [.ref mH, .int 0, .long 0, .int 0, .long 0, .int 0, .int 0, .int 0, .int 0, .int 0, .int 0, .long 0, .int 0, .int 0, .ref mI, .ref mJ, .ref mS, .ref mD, .int 0, .int 0, .int 0, .long 0, .ref mX, .int 0, .int 0, .int 0, .ref mA, .ref mB, .ref mW, .ref mL, .int 0]))] H := hP
              have hD : va_D A [(mH, .inl (cI, 512, .inl (fun _ => 0))), (mJ, .inl (cI, 4, .inl (fun _ => 0))), (mS, .inl (cI, 4, .inl (fun _ => 0))), (mD, .inl (cL, 256, .inr (.inl (fun _ => 0)))), (m0, .inr (8, [.ref mH, .int 0, .long 0, .int 0, .long 0, .int 0, .int 0, .int 0, .int 0, .int 0, .int 0, .long 0, .int 0, .int 0, .ref mI, .ref mJ, .ref mS, .ref mD, .int 0, .int 0, .int 0, .long 0, .ref mX, .int 0, .int 0, .int 0, .ref mA, .ref mB, .ref mW, .ref mL, .int 0]))] := hD
              try dsimp only at wr_28
              subst wr_28
              refine lv_ladd hx hb dX8_digest_51 ?_
              refine lv_topl (fun x_29 ex_29 => ?_)
              refine lv_lstore_n (lv' := [(1, .long x_29), (3, .int (nI i)), (0, .ref m0)]) hx hb dX8_digest_52 rfl hl (by decide) rfl (fun ls hl => ?_)
              refine lv_iinc (v := nI (i + 1)) (lv' := [(3, .int (nI (i + 1))), (1, .long x_29), (0, .ref m0)]) hx hb dX8_digest_53 hl (k := 1) rfl (nI_1 i) (by decide) rfl (fun ls hl => ?_)
              refine lv_goto (tgt := 35) hx hb dX8_digest_56 (by decide) ?_
              exact ih (i + 1) x_29 (by omega) (kD_e (kD_k ex_29 (kif_t (by omega)) hinv) (by omega)) _ _ (hP.sub [4, 0, 1, 2, 3] rfl) (hD.sub [4, 0, 1, 2, 3] (by decide) rfl) hS ls (lv_sub hl [0, 1, 2] rfl)
        exact LP 10 0 h (by omega) (kD_e hinv (by omega)) _ _ hP hD hS ls hl
      · have t_10_0 := c_10_0
        try simp only [kb_eq0, kb_ne0, lg_cmp_lt, lg_cmp_le, lg_cmp_gt, lg_cmp_ge, lg_cmp_eq] at t_10_0
        try simp only [Int32.lt_iff_toInt_lt, Int32.le_iff_toInt_le, ← Int32.toInt_inj, Int64.lt_iff_toInt_lt, Int64.le_iff_toInt_le, ← Int64.toInt_inj, Int32.toInt_toInt64, Int32.reduceToInt, Int64.reduceToInt] at t_10_0
        omega
    | succ k ih =>
      intro i h hik hinv H locs hP hD hS ls hl
      have hni := nI_toInt (n := i) (by omega)
      refine lv_iload_n hx hb dX8_digest_6 rfl (lv_at hl 0 rfl) ?_
      refine lv_sipush (v := 512) hx hb dX8_digest_7 (by decide) ?_
      refine lv_icmp_ge (tgt := 33) hx hb dX8_digest_10 (by decide) (fun c_10_29 => ?_) (fun c_10_29 => ?_)
      · have t_10_29 := c_10_29
        try simp only [kb_eq0, kb_ne0, lg_cmp_lt, lg_cmp_le, lg_cmp_gt, lg_cmp_ge, lg_cmp_eq] at t_10_29
        try simp only [Int32.lt_iff_toInt_lt, Int32.le_iff_toInt_le, ← Int32.toInt_inj, Int64.lt_iff_toInt_lt, Int64.le_iff_toInt_le, ← Int64.toInt_inj, Int32.toInt_toInt64, Int32.reduceToInt, Int64.reduceToInt] at t_10_29
        omega
      · have t_10_29 := c_10_29
        try simp only [kb_eq0, kb_ne0, lg_cmp_lt, lg_cmp_le, lg_cmp_gt, lg_cmp_ge, lg_cmp_eq] at t_10_29
        try simp only [Int32.lt_iff_toInt_lt, Int32.le_iff_toInt_le, ← Int32.toInt_inj, Int64.lt_iff_toInt_lt, Int64.le_iff_toInt_le, ← Int64.toInt_inj, Int32.toInt_toInt64, Int32.reduceToInt, Int64.reduceToInt] at t_10_29
        refine lv_ldc2 (v := 31) hx hb hown (hts (.constantLong RX8 293 (31)) (List.mem_of_getElem? (i := 2) rfl)) dX8_digest_13 ?_
        refine lv_lload_n hx hb dX8_digest_16 rfl (lv_at hl 1 rfl) ?_
        refine lv_lmul hx hb dX8_digest_17 ?_
        refine lv_aload_n hx hb dX8_digest_18 rfl (lv_at hl 2 rfl) ?_
        refine va_get (D := D) (ci := 8) (v := .ref mH) (C := RX8) (T := TX8) (N := 31) hx hb hts iX8_digest_X8 hown hK hP 0 rfl rfl 0 (by decide) (hts (.fieldLink RX8 7 "TapeCalculatorModel" "half" "[I") (List.mem_of_getElem? (i := 3) rfl)) (fun _ h9 => h9) rfl dX8_digest_19 ?_
        refine lv_iload_n hx hb dX8_digest_22 rfl (lv_at hl 0 rfl) ?_
        refine va_iald hx hb hK hP 1 0 rfl rfl (vp_in_iff.mpr (by omega)) dX8_digest_23 ?_
        refine lv_i2l hx hb dX8_digest_24 rfl ?_
        refine lv_topl (fun x_31 ex_31 => ?_)
        obtain rfl : x_31 = 0 := ex_31.trans (by decide)
        refine lv_ladd hx hb dX8_digest_25 ?_
        refine lv_topl (fun x_32 ex_32 => ?_)
        refine lv_lstore_n (lv' := [(1, .long x_32), (3, .int (nI i)), (0, .ref m0)]) hx hb dX8_digest_26 rfl hl (by decide) rfl (fun ls hl => ?_)
        refine lv_iinc (v := nI (i + 1)) (lv' := [(3, .int (nI (i + 1))), (1, .long x_32), (0, .ref m0)]) hx hb dX8_digest_27 hl (k := 1) rfl (nI_1 i) (by decide) rfl (fun ls hl => ?_)
        refine lv_goto (tgt := 6) hx hb dX8_digest_30 (by decide) ?_
        exact ih (i + 1) x_32 (by omega) (kD_e (kD_s ex_32 hinv) (by omega)) _ _ (hP.sub [0, 1, 2, 3, 4] rfl) (hD.sub [0, 1, 2, 3, 4] (by decide) rfl) hS ls (lv_sub hl [0, 1, 2] rfl)
  exact LP 512 0 17 (by omega) (rfl) _ _ hP hD hS ls hl
