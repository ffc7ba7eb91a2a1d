set_option maxRecDepth 100000 in
theorem iX5_takeBytes_X5 : ∀ w ∈ wsX50, w ∈ wsX5_takeBytes := fun w h => (goodIn_r (big := wsX5_takeBytes) wsX50 [3, 4, 5, 6, 7, 8, 9] rfl (by decide +kernel) w h).1
set_option maxRecDepth 100000 in
set_option maxHeartbeats 4000000 in
theorem c_takeBytes (l : Launch) (D : va_G) (cI cL cB cZ cT : ClassId) (sz : Nat) (aX bX : Nat) (v : Int64) (n : Int32) (hn : 1 ≤ n.toInt ∧ n.toInt ≤ 8) : kM (S := ((Nat → Int32))) l yX5_takeBytes wsX5_takeBytes ({ frames := 0, cells := 0, slots := 0, locals := 0 }) D (kT cI cL cB cZ cT) [.ref aX, .long v, .int n] [(aX, .inr (5, [.ref bX, .int 0, .int (-1), .int 0, .int 0, .int 0, .long 0])), (bX, .inl (cB, 2000, .inl (fun _ => 0)))] sz eI (fun r _ => r = 1) (fun u => [(aX, .inr (5, [.ref bX, .int n, .int (-1), .int 0, .int 0, .int 0, .long 0])), (bX, .inl (cB, 2000, .inl u))]) 0 0 := by
  refine kStart (cc := cX5_takeBytes) (maxL := 5) (ret := (some .boolean)) (own := RX5) (by decide) rfl rfl (Nat.le_of_ble_eq_true rfl) ?_
  intro p e s m args below meth c A ls hx hb hr hml hown hts hlocks hnm hsz hA hG hP hD hS hl
  have hK := hG.1
  have hl : lv_has ls 5 [(0, .ref aX), (1, .long v), (3, .int n)] := hl
  rcases ksw_1_8 n with hsw | rfl | rfl | rfl | rfl | rfl | rfl | rfl | rfl
  · omega
  · refine lv_aload_n hx hb dX5_takeBytes_0 rfl (lv_at hl 0 rfl) ?_
    refine va_get (D := D) (ci := 5) (v := .int 0) (C := RX5) (T := TX5) (N := 7) hx hb hts iX5_takeBytes_X5 hown hK hP 0 rfl rfl 1 (by decide) (hts (.fieldLink RX5 19 "TapeCalculator$Text" "length" "I") (List.mem_of_getElem? (i := 1) rfl)) (fun _ h9 => h9) rfl dX5_takeBytes_1 ?_
    refine lv_if_lt (tgt := 21) hx hb dX5_takeBytes_4 (by decide) (fun c_4_0 => ?_) (fun c_4_0 => ?_)
    · exact absurd c_4_0 (by decide)
    · have t_4_0 := c_4_0
      try simp only [kb_eq0, kb_ne0, lg_cmp_lt, lg_cmp_le, lg_cmp_gt, lg_cmp_ge, lg_cmp_eq] at t_4_0
      try simp only [Int32.lt_iff_toInt_lt, Int32.le_iff_toInt_le, ← Int32.toInt_inj, Int64.lt_iff_toInt_lt, Int64.le_iff_toInt_le, ← Int64.toInt_inj, Int32.toInt_toInt64, Int32.reduceToInt, Int64.reduceToInt] at t_4_0
      refine lv_aload_n hx hb dX5_takeBytes_7 rfl (lv_at hl 0 rfl) ?_
      refine va_get (D := D) (ci := 5) (v := .int 0) (C := RX5) (T := TX5) (N := 7) hx hb hts iX5_takeBytes_X5 hown hK hP 0 rfl rfl 1 (by decide) (hts (.fieldLink RX5 19 "TapeCalculator$Text" "length" "I") (List.mem_of_getElem? (i := 1) rfl)) (fun _ h9 => h9) rfl dX5_takeBytes_8 ?_
      refine lv_iload_n hx hb dX5_takeBytes_11 rfl (lv_at hl 2 rfl) ?_
      refine lv_iadd hx hb dX5_takeBytes_12 ?_
      refine lv_topi (fun x_2 ex_2 => ?_)
      obtain rfl : x_2 = 1 := ex_2.trans (by decide)
      refine lv_aload_n hx hb dX5_takeBytes_13 rfl (lv_at hl 0 rfl) ?_
      refine va_get (D := D) (ci := 5) (v := .ref bX) (C := RX5) (T := TX5) (N := 7) hx hb hts iX5_takeBytes_X5 hown hK hP 0 rfl rfl 0 (by decide) (hts (.fieldLink RX5 9 "TapeCalculator$Text" "bytes" "[B") (List.mem_of_getElem? (i := 2) rfl)) (fun _ h9 => h9) rfl dX5_takeBytes_14 ?_
      refine va_alen hx hb hK hP 1 2 rfl rfl (v := 2000) rfl dX5_takeBytes_17 ?_
      refine lv_icmp_le (tgt := 23) hx hb dX5_takeBytes_18 (by decide) (fun c_18_2 => ?_) (fun c_18_2 => ?_)
      · have t_18_2 := c_18_2
        try simp only [kb_eq0, kb_ne0, lg_cmp_lt, lg_cmp_le, lg_cmp_gt, lg_cmp_ge, lg_cmp_eq] at t_18_2
        try simp only [Int32.lt_iff_toInt_lt, Int32.le_iff_toInt_le, ← Int32.toInt_inj, Int64.lt_iff_toInt_lt, Int64.le_iff_toInt_le, ← Int64.toInt_inj, Int32.toInt_toInt64, Int32.reduceToInt, Int64.reduceToInt] at t_18_2
        refine lv_iconst (v := 0) hx hb dX5_takeBytes_23 (by decide) ?_
        refine lv_istore (lv' := [(4, .int 0), (0, .ref aX), (1, .long v), (3, .int 1)]) hx hb dX5_takeBytes_24 hl (by decide) rfl (fun ls hl => ?_)
        refine lv_iload hx hb dX5_takeBytes_26 (lv_at hl 0 rfl) ?_
        refine lv_iload_n hx hb dX5_takeBytes_28 rfl (lv_at hl 3 rfl) ?_
        refine lv_icmp_ge (tgt := 78) hx hb dX5_takeBytes_29 (by decide) (fun c_29_3 => ?_) (fun c_29_3 => ?_)
        · exact absurd c_29_3 (by decide)
        · have t_29_3 := c_29_3
          try simp only [kb_eq0, kb_ne0, lg_cmp_lt, lg_cmp_le, lg_cmp_gt, lg_cmp_ge, lg_cmp_eq] at t_29_3
          try simp only [Int32.lt_iff_toInt_lt, Int32.le_iff_toInt_le, ← Int32.toInt_inj, Int64.lt_iff_toInt_lt, Int64.le_iff_toInt_le, ← Int64.toInt_inj, Int32.toInt_toInt64, Int32.reduceToInt, Int64.reduceToInt] at t_29_3
          refine lv_aload_n hx hb dX5_takeBytes_32 rfl (lv_at hl 1 rfl) ?_
          refine va_get (D := D) (ci := 5) (v := .int 0) (C := RX5) (T := TX5) (N := 7) hx hb hts iX5_takeBytes_X5 hown hK hP 0 rfl rfl 1 (by decide) (hts (.fieldLink RX5 19 "TapeCalculator$Text" "length" "I") (List.mem_of_getElem? (i := 1) rfl)) (fun _ h9 => h9) rfl dX5_takeBytes_33 ?_
          refine lv_aload_n hx hb dX5_takeBytes_36 rfl (lv_at hl 1 rfl) ?_
          refine va_get (D := D) (ci := 5) (v := .ref bX) (C := RX5) (T := TX5) (N := 7) hx hb hts iX5_takeBytes_X5 hown hK hP 0 rfl rfl 0 (by decide) (hts (.fieldLink RX5 9 "TapeCalculator$Text" "bytes" "[B") (List.mem_of_getElem? (i := 2) rfl)) (fun _ h9 => h9) rfl dX5_takeBytes_37 ?_
          refine va_alen hx hb hK hP 1 2 rfl rfl (v := 2000) rfl dX5_takeBytes_40 ?_
          refine lv_icmp_ge (tgt := 78) hx hb dX5_takeBytes_41 (by decide) (fun c_41_4 => ?_) (fun c_41_4 => ?_)
          · exact absurd c_41_4 (by decide)
          · have t_41_4 := c_41_4
            try simp only [kb_eq0, kb_ne0, lg_cmp_lt, lg_cmp_le, lg_cmp_gt, lg_cmp_ge, lg_cmp_eq] at t_41_4
            try simp only [Int32.lt_iff_toInt_lt, Int32.le_iff_toInt_le, ← Int32.toInt_inj, Int64.lt_iff_toInt_lt, Int64.le_iff_toInt_le, ← Int64.toInt_inj, Int32.toInt_toInt64, Int32.reduceToInt, Int64.reduceToInt] at t_41_4
            refine lv_aload_n hx hb dX5_takeBytes_44 rfl (lv_at hl 1 rfl) ?_
            refine va_get (D := D) (ci := 5) (v := .ref bX) (C := RX5) (T := TX5) (N := 7) hx hb hts iX5_takeBytes_X5 hown hK hP 0 rfl rfl 0 (by decide) (hts (.fieldLink RX5 9 "TapeCalculator$Text" "bytes" "[B") (List.mem_of_getElem? (i := 2) rfl)) (fun _ h9 => h9) rfl dX5_takeBytes_45 ?_
            refine lv_aload_n hx hb dX5_takeBytes_48 rfl (lv_at hl 1 rfl) ?_
            refine va_get (D := D) (ci := 5) (v := .int 0) (C := RX5) (T := TX5) (N := 7) hx hb hts iX5_takeBytes_X5 hown hK hP 0 rfl rfl 1 (by decide) (hts (.fieldLink RX5 19 "TapeCalculator$Text" "length" "I") (List.mem_of_getElem? (i := 1) rfl)) (fun _ h9 => h9) rfl dX5_takeBytes_49 ?_
            refine lv_lload_n hx hb dX5_takeBytes_52 rfl (lv_at hl 2 rfl) ?_
            refine lv_bipush (v := 8) hx hb dX5_takeBytes_53 (by decide) ?_
            refine lv_iload hx hb dX5_takeBytes_55 (lv_at hl 0 rfl) ?_
            refine lv_imul hx hb dX5_takeBytes_57 ?_
            refine lv_topi (fun x_6 ex_6 => ?_)
            obtain rfl : x_6 = 0 := ex_6.trans (by decide)
            refine lv_lshr hx hb dX5_takeBytes_58 rfl ?_
            refine lv_l2i hx hb dX5_takeBytes_59 rfl ?_
            refine lv_i2b hx hb dX5_takeBytes_60 rfl ?_
            refine va_bast hx hb hK hP hD hS 1 2 rfl rfl (vp_in_iff.mpr (by decide)) dX5_takeBytes_61 (fun H locs hP hD hS => ?_)
            have hP : va_P D vwCl [(aX, .inr (5, [.ref bX, .int 0, .int (-1), .int 0, .int 0, .int 0, .long 0])), (bX, .inl (cB, 2000, .inl (upd (fun _ => 0) (0 : Int32).toNatClampNeg (vp_nar .byte (v >>> ((0 : Int32).toInt64 &&& 63)).toInt32.toInt8.toInt32))))] H := hP
            have hD : va_D A [(aX, .inr (5, [.ref bX, .int 0, .int (-1), .int 0, .int 0, .int 0, .long 0])), (bX, .inl (cB, 2000, .inl (upd (fun _ => 0) (0 : Int32).toNatClampNeg (vp_nar .byte (v >>> ((0 : Int32).toInt64 &&& 63)).toInt32.toInt8.toInt32))))] := hD
            refine lv_aload_n hx hb dX5_takeBytes_62 rfl (lv_at hl 1 rfl) ?_
            refine lv_dup hx hb dX5_takeBytes_63 rfl ?_
            refine va_get (D := D) (ci := 5) (v := .int 0) (C := RX5) (T := TX5) (N := 7) hx hb hts iX5_takeBytes_X5 hown hK hP 0 rfl rfl 1 (by decide) (hts (.fieldLink RX5 19 "TapeCalculator$Text" "length" "I") (List.mem_of_getElem? (i := 1) rfl)) (fun _ h9 => h9) rfl dX5_takeBytes_64 ?_
            refine lv_iconst (v := 1) hx hb dX5_takeBytes_67 (by decide) ?_
            refine lv_iadd hx hb dX5_takeBytes_68 ?_
            refine lv_topi (fun x_7 ex_7 => ?_)
            obtain rfl : x_7 = 1 := ex_7.trans (by decide)
            refine va_put (D := D) (ci := 5) (v := .int 1) (ty := .int) (C := RX5) (T := TX5) (N := 7) hx hb hts iX5_takeBytes_X5 tyX5 tyX5_ok nmX5 hown hK hP hD hS 0 rfl rfl 1 (by decide) (hts (.fieldLink RX5 19 "TapeCalculator$Text" "length" "I") (List.mem_of_getElem? (i := 1) rfl)) (fun _ h9 => h9) rfl (by decide +kernel) rfl rfl (Nat.le_of_ble_eq_true rfl) dX5_takeBytes_69 (fun H locs hP hD hS => ?_)
            have hP : va_P D vwCl [(aX, .inr (5, [.ref bX, .int 1, .int (-1), .int 0, .int 0, .int 0, .long 0])), (bX, .inl (cB, 2000, .inl (upd (fun _ => 0) (0 : Int32).toNatClampNeg (vp_nar .byte (v >>> ((0 : Int32).toInt64 &&& 63)).toInt32.toInt8.toInt32))))] H := hP
            have hD : va_D A [(aX, .inr (5, [.ref bX, .int 1, .int (-1), .int 0, .int 0, .int 0, .long 0])), (bX, .inl (cB, 2000, .inl (upd (fun _ => 0) (0 : Int32).toNatClampNeg (vp_nar .byte (v >>> ((0 : Int32).toInt64 &&& 63)).toInt32.toInt8.toInt32))))] := hD
            refine lv_iinc (v := 1) (lv' := [(4, .int 1), (0, .ref aX), (1, .long v), (3, .int 1)]) hx hb dX5_takeBytes_72 hl (k := 0) rfl (by decide) (by decide) rfl (fun ls hl => ?_)
            refine lv_goto (tgt := 26) hx hb dX5_takeBytes_75 (by decide) ?_
            refine lv_iload hx hb dX5_takeBytes_26 (lv_at hl 0 rfl) ?_
            refine lv_iload_n hx hb dX5_takeBytes_28 rfl (lv_at hl 3 rfl) ?_
            refine lv_icmp_ge (tgt := 78) hx hb dX5_takeBytes_29 (by decide) (fun c_29_7 => ?_) (fun c_29_7 => ?_)
            · have t_29_7 := c_29_7
              try simp only [kb_eq0, kb_ne0, lg_cmp_lt, lg_cmp_le, lg_cmp_gt, lg_cmp_ge, lg_cmp_eq] at t_29_7
              try simp only [Int32.lt_iff_toInt_lt, Int32.le_iff_toInt_le, ← Int32.toInt_inj, Int64.lt_iff_toInt_lt, Int64.le_iff_toInt_le, ← Int64.toInt_inj, Int32.toInt_toInt64, Int32.reduceToInt, Int64.reduceToInt] at t_29_7
              refine lv_iconst (v := 1) hx hb dX5_takeBytes_78 (by decide) ?_
              refine kIret (u := (upd (fun _ => 0) (0 : Int32).toNatClampNeg (vp_nar .byte (v >>> ((0 : Int32).toInt64 &&& 63)).toInt32.toInt8.toInt32))) hx hb hr rfl hlocks hS dX5_takeBytes_79 ?_ (hP.sub [0, 1] rfl) (hD.sub [0, 1] (by decide) rfl)
              exact rfl
            · exact absurd (by decide) c_29_7
      · exact absurd (by decide) c_18_2
  · refine lv_aload_n hx hb dX5_takeBytes_0 rfl (lv_at hl 0 rfl) ?_
    refine va_get (D := D) (ci := 5) (v := .int 0) (C := RX5) (T := TX5) (N := 7) hx hb hts iX5_takeBytes_X5 hown hK hP 0 rfl rfl 1 (by decide) (hts (.fieldLink RX5 19 "TapeCalculator$Text" "length" "I") (List.mem_of_getElem? (i := 1) rfl)) (fun _ h9 => h9) rfl dX5_takeBytes_1 ?_
    refine lv_if_lt (tgt := 21) hx hb dX5_takeBytes_4 (by decide) (fun c_4_8 => ?_) (fun c_4_8 => ?_)
    · exact absurd c_4_8 (by decide)
    · have t_4_8 := c_4_8
      try simp only [kb_eq0, kb_ne0, lg_cmp_lt, lg_cmp_le, lg_cmp_gt, lg_cmp_ge, lg_cmp_eq] at t_4_8
      try simp only [Int32.lt_iff_toInt_lt, Int32.le_iff_toInt_le, ← Int32.toInt_inj, Int64.lt_iff_toInt_lt, Int64.le_iff_toInt_le, ← Int64.toInt_inj, Int32.toInt_toInt64, Int32.reduceToInt, Int64.reduceToInt] at t_4_8
      refine lv_aload_n hx hb dX5_takeBytes_7 rfl (lv_at hl 0 rfl) ?_
      refine va_get (D := D) (ci := 5) (v := .int 0) (C := RX5) (T := TX5) (N := 7) hx hb hts iX5_takeBytes_X5 hown hK hP 0 rfl rfl 1 (by decide) (hts (.fieldLink RX5 19 "TapeCalculator$Text" "length" "I") (List.mem_of_getElem? (i := 1) rfl)) (fun _ h9 => h9) rfl dX5_takeBytes_8 ?_
      refine lv_iload_n hx hb dX5_takeBytes_11 rfl (lv_at hl 2 rfl) ?_
      refine lv_iadd hx hb dX5_takeBytes_12 ?_
      refine lv_topi (fun x_10 ex_10 => ?_)
      obtain rfl : x_10 = 2 := ex_10.trans (by decide)
      refine lv_aload_n hx hb dX5_takeBytes_13 rfl (lv_at hl 0 rfl) ?_
      refine va_get (D := D) (ci := 5) (v := .ref bX) (C := RX5) (T := TX5) (N := 7) hx hb hts iX5_takeBytes_X5 hown hK hP 0 rfl rfl 0 (by decide) (hts (.fieldLink RX5 9 "TapeCalculator$Text" "bytes" "[B") (List.mem_of_getElem? (i := 2) rfl)) (fun _ h9 => h9) rfl dX5_takeBytes_14 ?_
      refine va_alen hx hb hK hP 1 2 rfl rfl (v := 2000) rfl dX5_takeBytes_17 ?_
      refine lv_icmp_le (tgt := 23) hx hb dX5_takeBytes_18 (by decide) (fun c_18_10 => ?_) (fun c_18_10 => ?_)
      · have t_18_10 := c_18_10
        try simp only [kb_eq0, kb_ne0, lg_cmp_lt, lg_cmp_le, lg_cmp_gt, lg_cmp_ge, lg_cmp_eq] at t_18_10
        try simp only [Int32.lt_iff_toInt_lt, Int32.le_iff_toInt_le, ← Int32.toInt_inj, Int64.lt_iff_toInt_lt, Int64.le_iff_toInt_le, ← Int64.toInt_inj, Int32.toInt_toInt64, Int32.reduceToInt, Int64.reduceToInt] at t_18_10
        refine lv_iconst (v := 0) hx hb dX5_takeBytes_23 (by decide) ?_
        refine lv_istore (lv' := [(4, .int 0), (0, .ref aX), (1, .long v), (3, .int 2)]) hx hb dX5_takeBytes_24 hl (by decide) rfl (fun ls hl => ?_)
        refine lv_iload hx hb dX5_takeBytes_26 (lv_at hl 0 rfl) ?_
        refine lv_iload_n hx hb dX5_takeBytes_28 rfl (lv_at hl 3 rfl) ?_
        refine lv_icmp_ge (tgt := 78) hx hb dX5_takeBytes_29 (by decide) (fun c_29_11 => ?_) (fun c_29_11 => ?_)
        · exact absurd c_29_11 (by decide)
        · have t_29_11 := c_29_11
          try simp only [kb_eq0, kb_ne0, lg_cmp_lt, lg_cmp_le, lg_cmp_gt, lg_cmp_ge, lg_cmp_eq] at t_29_11
          try simp only [Int32.lt_iff_toInt_lt, Int32.le_iff_toInt_le, ← Int32.toInt_inj, Int64.lt_iff_toInt_lt, Int64.le_iff_toInt_le, ← Int64.toInt_inj, Int32.toInt_toInt64, Int32.reduceToInt, Int64.reduceToInt] at t_29_11
          refine lv_aload_n hx hb dX5_takeBytes_32 rfl (lv_at hl 1 rfl) ?_
          refine va_get (D := D) (ci := 5) (v := .int 0) (C := RX5) (T := TX5) (N := 7) hx hb hts iX5_takeBytes_X5 hown hK hP 0 rfl rfl 1 (by decide) (hts (.fieldLink RX5 19 "TapeCalculator$Text" "length" "I") (List.mem_of_getElem? (i := 1) rfl)) (fun _ h9 => h9) rfl dX5_takeBytes_33 ?_
          refine lv_aload_n hx hb dX5_takeBytes_36 rfl (lv_at hl 1 rfl) ?_
          refine va_get (D := D) (ci := 5) (v := .ref bX) (C := RX5) (T := TX5) (N := 7) hx hb hts iX5_takeBytes_X5 hown hK hP 0 rfl rfl 0 (by decide) (hts (.fieldLink RX5 9 "TapeCalculator$Text" "bytes" "[B") (List.mem_of_getElem? (i := 2) rfl)) (fun _ h9 => h9) rfl dX5_takeBytes_37 ?_
          refine va_alen hx hb hK hP 1 2 rfl rfl (v := 2000) rfl dX5_takeBytes_40 ?_
          refine lv_icmp_ge (tgt := 78) hx hb dX5_takeBytes_41 (by decide) (fun c_41_12 => ?_) (fun c_41_12 => ?_)
          · exact absurd c_41_12 (by decide)
          · have t_41_12 := c_41_12
            try simp only [kb_eq0, kb_ne0, lg_cmp_lt, lg_cmp_le, lg_cmp_gt, lg_cmp_ge, lg_cmp_eq] at t_41_12
            try simp only [Int32.lt_iff_toInt_lt, Int32.le_iff_toInt_le, ← Int32.toInt_inj, Int64.lt_iff_toInt_lt, Int64.le_iff_toInt_le, ← Int64.toInt_inj, Int32.toInt_toInt64, Int32.reduceToInt, Int64.reduceToInt] at t_41_12
            refine lv_aload_n hx hb dX5_takeBytes_44 rfl (lv_at hl 1 rfl) ?_
            refine va_get (D := D) (ci := 5) (v := .ref bX) (C := RX5) (T := TX5) (N := 7) hx hb hts iX5_takeBytes_X5 hown hK hP 0 rfl rfl 0 (by decide) (hts (.fieldLink RX5 9 "TapeCalculator$Text" "bytes" "[B") (List.mem_of_getElem? (i := 2) rfl)) (fun _ h9 => h9) rfl dX5_takeBytes_45 ?_
            refine lv_aload_n hx hb dX5_takeBytes_48 rfl (lv_at hl 1 rfl) ?_
            refine va_get (D := D) (ci := 5) (v := .int 0) (C := RX5) (T := TX5) (N := 7) hx hb hts iX5_takeBytes_X5 hown hK hP 0 rfl rfl 1 (by decide) (hts (.fieldLink RX5 19 "TapeCalculator$Text" "length" "I") (List.mem_of_getElem? (i := 1) rfl)) (fun _ h9 => h9) rfl dX5_takeBytes_49 ?_
            refine lv_lload_n hx hb dX5_takeBytes_52 rfl (lv_at hl 2 rfl) ?_
            refine lv_bipush (v := 8) hx hb dX5_takeBytes_53 (by decide) ?_
            refine lv_iload hx hb dX5_takeBytes_55 (lv_at hl 0 rfl) ?_
            refine lv_imul hx hb dX5_takeBytes_57 ?_
            refine lv_topi (fun x_14 ex_14 => ?_)
            obtain rfl : x_14 = 0 := ex_14.trans (by decide)
            refine lv_lshr hx hb dX5_takeBytes_58 rfl ?_
            refine lv_l2i hx hb dX5_takeBytes_59 rfl ?_
            refine lv_i2b hx hb dX5_takeBytes_60 rfl ?_
            refine va_bast hx hb hK hP hD hS 1 2 rfl rfl (vp_in_iff.mpr (by decide)) dX5_takeBytes_61 (fun H locs hP hD hS => ?_)
            have hP : va_P D vwCl [(aX, .inr (5, [.ref bX, .int 0, .int (-1), .int 0, .int 0, .int 0, .long 0])), (bX, .inl (cB, 2000, .inl (upd (fun _ => 0) (0 : Int32).toNatClampNeg (vp_nar .byte (v >>> ((0 : Int32).toInt64 &&& 63)).toInt32.toInt8.toInt32))))] H := hP
            have hD : va_D A [(aX, .inr (5, [.ref bX, .int 0, .int (-1), .int 0, .int 0, .int 0, .long 0])), (bX, .inl (cB, 2000, .inl (upd (fun _ => 0) (0 : Int32).toNatClampNeg (vp_nar .byte (v >>> ((0 : Int32).toInt64 &&& 63)).toInt32.toInt8.toInt32))))] := hD
            refine lv_aload_n hx hb dX5_takeBytes_62 rfl (lv_at hl 1 rfl) ?_
            refine lv_dup hx hb dX5_takeBytes_63 rfl ?_
            refine va_get (D := D) (ci := 5) (v := .int 0) (C := RX5) (T := TX5) (N := 7) hx hb hts iX5_takeBytes_X5 hown hK hP 0 rfl rfl 1 (by decide) (hts (.fieldLink RX5 19 "TapeCalculator$Text" "length" "I") (List.mem_of_getElem? (i := 1) rfl)) (fun _ h9 => h9) rfl dX5_takeBytes_64 ?_
            refine lv_iconst (v := 1) hx hb dX5_takeBytes_67 (by decide) ?_
            refine lv_iadd hx hb dX5_takeBytes_68 ?_
            refine lv_topi (fun x_15 ex_15 => ?_)
            obtain rfl : x_15 = 1 := ex_15.trans (by decide)
            refine va_put (D := D) (ci := 5) (v := .int 1) (ty := .int) (C := RX5) (T := TX5) (N := 7) hx hb hts iX5_takeBytes_X5 tyX5 tyX5_ok nmX5 hown hK hP hD hS 0 rfl rfl 1 (by decide) (hts (.fieldLink RX5 19 "TapeCalculator$Text" "length" "I") (List.mem_of_getElem? (i := 1) rfl)) (fun _ h9 => h9) rfl (by decide +kernel) rfl rfl (Nat.le_of_ble_eq_true rfl) dX5_takeBytes_69 (fun H locs hP hD hS => ?_)
            have hP : va_P D vwCl [(aX, .inr (5, [.ref bX, .int 1, .int (-1), .int 0, .int 0, .int 0, .long 0])), (bX, .inl (cB, 2000, .inl (upd (fun _ => 0) (0 : Int32).toNatClampNeg (vp_nar .byte (v >>> ((0 : Int32).toInt64 &&& 63)).toInt32.toInt8.toInt32))))] H := hP
            have hD : va_D A [(aX, .inr (5, [.ref bX, .int 1, .int (-1), .int 0, .int 0, .int 0, .long 0])), (bX, .inl (cB, 2000, .inl (upd (fun _ => 0) (0 : Int32).toNatClampNeg (vp_nar .byte (v >>> ((0 : Int32).toInt64 &&& 63)).toInt32.toInt8.toInt32))))] := hD
            refine lv_iinc (v := 1) (lv' := [(4, .int 1), (0, .ref aX), (1, .long v), (3, .int 2)]) hx hb dX5_takeBytes_72 hl (k := 0) rfl (by decide) (by decide) rfl (fun ls hl => ?_)
            refine lv_goto (tgt := 26) hx hb dX5_takeBytes_75 (by decide) ?_
            refine lv_iload hx hb dX5_takeBytes_26 (lv_at hl 0 rfl) ?_
            refine lv_iload_n hx hb dX5_takeBytes_28 rfl (lv_at hl 3 rfl) ?_
            refine lv_icmp_ge (tgt := 78) hx hb dX5_takeBytes_29 (by decide) (fun c_29_15 => ?_) (fun c_29_15 => ?_)
            · exact absurd c_29_15 (by decide)
            · have t_29_15 := c_29_15
              try simp only [kb_eq0, kb_ne0, lg_cmp_lt, lg_cmp_le, lg_cmp_gt, lg_cmp_ge, lg_cmp_eq] at t_29_15
              try simp only [Int32.lt_iff_toInt_lt, Int32.le_iff_toInt_le, ← Int32.toInt_inj, Int64.lt_iff_toInt_lt, Int64.le_iff_toInt_le, ← Int64.toInt_inj, Int32.toInt_toInt64, Int32.reduceToInt, Int64.reduceToInt] at t_29_15
              refine lv_aload_n hx hb dX5_takeBytes_32 rfl (lv_at hl 1 rfl) ?_
              refine va_get (D := D) (ci := 5) (v := .int 1) (C := RX5) (T := TX5) (N := 7) hx hb hts iX5_takeBytes_X5 hown hK hP 0 rfl rfl 1 (by decide) (hts (.fieldLink RX5 19 "TapeCalculator$Text" "length" "I") (List.mem_of_getElem? (i := 1) rfl)) (fun _ h9 => h9) rfl dX5_takeBytes_33 ?_
              refine lv_aload_n hx hb dX5_takeBytes_36 rfl (lv_at hl 1 rfl) ?_
              refine va_get (D := D) (ci := 5) (v := .ref bX) (C := RX5) (T := TX5) (N := 7) hx hb hts iX5_takeBytes_X5 hown hK hP 0 rfl rfl 0 (by decide) (hts (.fieldLink RX5 9 "TapeCalculator$Text" "bytes" "[B") (List.mem_of_getElem? (i := 2) rfl)) (fun _ h9 => h9) rfl dX5_takeBytes_37 ?_
              refine va_alen hx hb hK hP 1 2 rfl rfl (v := 2000) rfl dX5_takeBytes_40 ?_
              refine lv_icmp_ge (tgt := 78) hx hb dX5_takeBytes_41 (by decide) (fun c_41_16 => ?_) (fun c_41_16 => ?_)
              · exact absurd c_41_16 (by decide)
              · have t_41_16 := c_41_16
                try simp only [kb_eq0, kb_ne0, lg_cmp_lt, lg_cmp_le, lg_cmp_gt, lg_cmp_ge, lg_cmp_eq] at t_41_16
                try simp only [Int32.lt_iff_toInt_lt, Int32.le_iff_toInt_le, ← Int32.toInt_inj, Int64.lt_iff_toInt_lt, Int64.le_iff_toInt_le, ← Int64.toInt_inj, Int32.toInt_toInt64, Int32.reduceToInt, Int64.reduceToInt] at t_41_16
                refine lv_aload_n hx hb dX5_takeBytes_44 rfl (lv_at hl 1 rfl) ?_
                refine va_get (D := D) (ci := 5) (v := .ref bX) (C := RX5) (T := TX5) (N := 7) hx hb hts iX5_takeBytes_X5 hown hK hP 0 rfl rfl 0 (by decide) (hts (.fieldLink RX5 9 "TapeCalculator$Text" "bytes" "[B") (List.mem_of_getElem? (i := 2) rfl)) (fun _ h9 => h9) rfl dX5_takeBytes_45 ?_
                refine lv_aload_n hx hb dX5_takeBytes_48 rfl (lv_at hl 1 rfl) ?_
                refine va_get (D := D) (ci := 5) (v := .int 1) (C := RX5) (T := TX5) (N := 7) hx hb hts iX5_takeBytes_X5 hown hK hP 0 rfl rfl 1 (by decide) (hts (.fieldLink RX5 19 "TapeCalculator$Text" "length" "I") (List.mem_of_getElem? (i := 1) rfl)) (fun _ h9 => h9) rfl dX5_takeBytes_49 ?_
                refine lv_lload_n hx hb dX5_takeBytes_52 rfl (lv_at hl 2 rfl) ?_
                refine lv_bipush (v := 8) hx hb dX5_takeBytes_53 (by decide) ?_
                refine lv_iload hx hb dX5_takeBytes_55 (lv_at hl 0 rfl) ?_
                refine lv_imul hx hb dX5_takeBytes_57 ?_
                refine lv_topi (fun x_18 ex_18 => ?_)
                obtain rfl : x_18 = 8 := ex_18.trans (by decide)
                refine lv_lshr hx hb dX5_takeBytes_58 rfl ?_
                refine lv_l2i hx hb dX5_takeBytes_59 rfl ?_
                refine lv_i2b hx hb dX5_takeBytes_60 rfl ?_
                refine va_bast hx hb hK hP hD hS 1 2 rfl rfl (vp_in_iff.mpr (by decide)) dX5_takeBytes_61 (fun H locs hP hD hS => ?_)
                have hP : va_P D vwCl [(aX, .inr (5, [.ref bX, .int 1, .int (-1), .int 0, .int 0, .int 0, .long 0])), (bX, .inl (cB, 2000, .inl (upd (upd (fun _ => 0) (0 : Int32).toNatClampNeg (vp_nar .byte (v >>> ((0 : Int32).toInt64 &&& 63)).toInt32.toInt8.toInt32)) (1 : Int32).toNatClampNeg (vp_nar .byte (v >>> ((8 : Int32).toInt64 &&& 63)).toInt32.toInt8.toInt32))))] H := hP
                have hD : va_D A [(aX, .inr (5, [.ref bX, .int 1, .int (-1), .int 0, .int 0, .int 0, .long 0])), (bX, .inl (cB, 2000, .inl (upd (upd (fun _ => 0) (0 : Int32).toNatClampNeg (vp_nar .byte (v >>> ((0 : Int32).toInt64 &&& 63)).toInt32.toInt8.toInt32)) (1 : Int32).toNatClampNeg (vp_nar .byte (v >>> ((8 : Int32).toInt64 &&& 63)).toInt32.toInt8.toInt32))))] := hD
                refine lv_aload_n hx hb dX5_takeBytes_62 rfl (lv_at hl 1 rfl) ?_
                refine lv_dup hx hb dX5_takeBytes_63 rfl ?_
                refine va_get (D := D) (ci := 5) (v := .int 1) (C := RX5) (T := TX5) (N := 7) hx hb hts iX5_takeBytes_X5 hown hK hP 0 rfl rfl 1 (by decide) (hts (.fieldLink RX5 19 "TapeCalculator$Text" "length" "I") (List.mem_of_getElem? (i := 1) rfl)) (fun _ h9 => h9) rfl dX5_takeBytes_64 ?_
                refine lv_iconst (v := 1) hx hb dX5_takeBytes_67 (by decide) ?_
                refine lv_iadd hx hb dX5_takeBytes_68 ?_
                refine lv_topi (fun x_19 ex_19 => ?_)
                obtain rfl : x_19 = 2 := ex_19.trans (by decide)
                refine va_put (D := D) (ci := 5) (v := .int 2) (ty := .int) (C := RX5) (T := TX5) (N := 7) hx hb hts iX5_takeBytes_X5 tyX5 tyX5_ok nmX5 hown hK hP hD hS 0 rfl rfl 1 (by decide) (hts (.fieldLink RX5 19 "TapeCalculator$Text" "length" "I") (List.mem_of_getElem? (i := 1) rfl)) (fun _ h9 => h9) rfl (by decide +kernel) rfl rfl (Nat.le_of_ble_eq_true rfl) dX5_takeBytes_69 (fun H locs hP hD hS => ?_)
                have hP : va_P D vwCl [(aX, .inr (5, [.ref bX, .int 2, .int (-1), .int 0, .int 0, .int 0, .long 0])), (bX, .inl (cB, 2000, .inl (upd (upd (fun _ => 0) (0 : Int32).toNatClampNeg (vp_nar .byte (v >>> ((0 : Int32).toInt64 &&& 63)).toInt32.toInt8.toInt32)) (1 : Int32).toNatClampNeg (vp_nar .byte (v >>> ((8 : Int32).toInt64 &&& 63)).toInt32.toInt8.toInt32))))] H := hP
                have hD : va_D A [(aX, .inr (5, [.ref bX, .int 2, .int (-1), .int 0, .int 0, .int 0, .long 0])), (bX, .inl (cB, 2000, .inl (upd (upd (fun _ => 0) (0 : Int32).toNatClampNeg (vp_nar .byte (v >>> ((0 : Int32).toInt64 &&& 63)).toInt32.toInt8.toInt32)) (1 : Int32).toNatClampNeg (vp_nar .byte (v >>> ((8 : Int32).toInt64 &&& 63)).toInt32.toInt8.toInt32))))] := hD
                refine lv_iinc (v := 2) (lv' := [(4, .int 2), (0, .ref aX), (1, .long v), (3, .int 2)]) hx hb dX5_takeBytes_72 hl (k := 0) rfl (by decide) (by decide) rfl (fun ls hl => ?_)
                refine lv_goto (tgt := 26) hx hb dX5_takeBytes_75 (by decide) ?_
                refine lv_iload hx hb dX5_takeBytes_26 (lv_at hl 0 rfl) ?_
                refine lv_iload_n hx hb dX5_takeBytes_28 rfl (lv_at hl 3 rfl) ?_
                refine lv_icmp_ge (tgt := 78) hx hb dX5_takeBytes_29 (by decide) (fun c_29_19 => ?_) (fun c_29_19 => ?_)
                · have t_29_19 := c_29_19
                  try simp only [kb_eq0, kb_ne0, lg_cmp_lt, lg_cmp_le, lg_cmp_gt, lg_cmp_ge, lg_cmp_eq] at t_29_19
                  try simp only [Int32.lt_iff_toInt_lt, Int32.le_iff_toInt_le, ← Int32.toInt_inj, Int64.lt_iff_toInt_lt, Int64.le_iff_toInt_le, ← Int64.toInt_inj, Int32.toInt_toInt64, Int32.reduceToInt, Int64.reduceToInt] at t_29_19
                  refine lv_iconst (v := 1) hx hb dX5_takeBytes_78 (by decide) ?_
                  refine kIret (u := (upd (upd (fun _ => 0) (0 : Int32).toNatClampNeg (vp_nar .byte (v >>> ((0 : Int32).toInt64 &&& 63)).toInt32.toInt8.toInt32)) (1 : Int32).toNatClampNeg (vp_nar .byte (v >>> ((8 : Int32).toInt64 &&& 63)).toInt32.toInt8.toInt32))) hx hb hr rfl hlocks hS dX5_takeBytes_79 ?_ (hP.sub [0, 1] rfl) (hD.sub [0, 1] (by decide) rfl)
                  exact rfl
                · exact absurd (by decide) c_29_19
      · exact absurd (by decide) c_18_10
  · refine lv_aload_n hx hb dX5_takeBytes_0 rfl (lv_at hl 0 rfl) ?_
    refine va_get (D := D) (ci := 5) (v := .int 0) (C := RX5) (T := TX5) (N := 7) hx hb hts iX5_takeBytes_X5 hown hK hP 0 rfl rfl 1 (by decide) (hts (.fieldLink RX5 19 "TapeCalculator$Text" "length" "I") (List.mem_of_getElem? (i := 1) rfl)) (fun _ h9 => h9) rfl dX5_takeBytes_1 ?_
    refine lv_if_lt (tgt := 21) hx hb dX5_takeBytes_4 (by decide) (fun c_4_20 => ?_) (fun c_4_20 => ?_)
    · exact absurd c_4_20 (by decide)
    · have t_4_20 := c_4_20
      try simp only [kb_eq0, kb_ne0, lg_cmp_lt, lg_cmp_le, lg_cmp_gt, lg_cmp_ge, lg_cmp_eq] at t_4_20
      try simp only [Int32.lt_iff_toInt_lt, Int32.le_iff_toInt_le, ← Int32.toInt_inj, Int64.lt_iff_toInt_lt, Int64.le_iff_toInt_le, ← Int64.toInt_inj, Int32.toInt_toInt64, Int32.reduceToInt, Int64.reduceToInt] at t_4_20
      refine lv_aload_n hx hb dX5_takeBytes_7 rfl (lv_at hl 0 rfl) ?_
      refine va_get (D := D) (ci := 5) (v := .int 0) (C := RX5) (T := TX5) (N := 7) hx hb hts iX5_takeBytes_X5 hown hK hP 0 rfl rfl 1 (by decide) (hts (.fieldLink RX5 19 "TapeCalculator$Text" "length" "I") (List.mem_of_getElem? (i := 1) rfl)) (fun _ h9 => h9) rfl dX5_takeBytes_8 ?_
      refine lv_iload_n hx hb dX5_takeBytes_11 rfl (lv_at hl 2 rfl) ?_
      refine lv_iadd hx hb dX5_takeBytes_12 ?_
      refine lv_topi (fun x_22 ex_22 => ?_)
      obtain rfl : x_22 = 3 := ex_22.trans (by decide)
      refine lv_aload_n hx hb dX5_takeBytes_13 rfl (lv_at hl 0 rfl) ?_
      refine va_get (D := D) (ci := 5) (v := .ref bX) (C := RX5) (T := TX5) (N := 7) hx hb hts iX5_takeBytes_X5 hown hK hP 0 rfl rfl 0 (by decide) (hts (.fieldLink RX5 9 "TapeCalculator$Text" "bytes" "[B") (List.mem_of_getElem? (i := 2) rfl)) (fun _ h9 => h9) rfl dX5_takeBytes_14 ?_
      refine va_alen hx hb hK hP 1 2 rfl rfl (v := 2000) rfl dX5_takeBytes_17 ?_
      refine lv_icmp_le (tgt := 23) hx hb dX5_takeBytes_18 (by decide) (fun c_18_22 => ?_) (fun c_18_22 => ?_)
      · have t_18_22 := c_18_22
        try simp only [kb_eq0, kb_ne0, lg_cmp_lt, lg_cmp_le, lg_cmp_gt, lg_cmp_ge, lg_cmp_eq] at t_18_22
        try simp only [Int32.lt_iff_toInt_lt, Int32.le_iff_toInt_le, ← Int32.toInt_inj, Int64.lt_iff_toInt_lt, Int64.le_iff_toInt_le, ← Int64.toInt_inj, Int32.toInt_toInt64, Int32.reduceToInt, Int64.reduceToInt] at t_18_22
        refine lv_iconst (v := 0) hx hb dX5_takeBytes_23 (by decide) ?_
        refine lv_istore (lv' := [(4, .int 0), (0, .ref aX), (1, .long v), (3, .int 3)]) hx hb dX5_takeBytes_24 hl (by decide) rfl (fun ls hl => ?_)
        refine lv_iload hx hb dX5_takeBytes_26 (lv_at hl 0 rfl) ?_
        refine lv_iload_n hx hb dX5_takeBytes_28 rfl (lv_at hl 3 rfl) ?_
        refine lv_icmp_ge (tgt := 78) hx hb dX5_takeBytes_29 (by decide) (fun c_29_23 => ?_) (fun c_29_23 => ?_)
        · exact absurd c_29_23 (by decide)
        · have t_29_23 := c_29_23
          try simp only [kb_eq0, kb_ne0, lg_cmp_lt, lg_cmp_le, lg_cmp_gt, lg_cmp_ge, lg_cmp_eq] at t_29_23
          try simp only [Int32.lt_iff_toInt_lt, Int32.le_iff_toInt_le, ← Int32.toInt_inj, Int64.lt_iff_toInt_lt, Int64.le_iff_toInt_le, ← Int64.toInt_inj, Int32.toInt_toInt64, Int32.reduceToInt, Int64.reduceToInt] at t_29_23
          refine lv_aload_n hx hb dX5_takeBytes_32 rfl (lv_at hl 1 rfl) ?_
          refine va_get (D := D) (ci := 5) (v := .int 0) (C := RX5) (T := TX5) (N := 7) hx hb hts iX5_takeBytes_X5 hown hK hP 0 rfl rfl 1 (by decide) (hts (.fieldLink RX5 19 "TapeCalculator$Text" "length" "I") (List.mem_of_getElem? (i := 1) rfl)) (fun _ h9 => h9) rfl dX5_takeBytes_33 ?_
          refine lv_aload_n hx hb dX5_takeBytes_36 rfl (lv_at hl 1 rfl) ?_
          refine va_get (D := D) (ci := 5) (v := .ref bX) (C := RX5) (T := TX5) (N := 7) hx hb hts iX5_takeBytes_X5 hown hK hP 0 rfl rfl 0 (by decide) (hts (.fieldLink RX5 9 "TapeCalculator$Text" "bytes" "[B") (List.mem_of_getElem? (i := 2) rfl)) (fun _ h9 => h9) rfl dX5_takeBytes_37 ?_
          refine va_alen hx hb hK hP 1 2 rfl rfl (v := 2000) rfl dX5_takeBytes_40 ?_
          refine lv_icmp_ge (tgt := 78) hx hb dX5_takeBytes_41 (by decide) (fun c_41_24 => ?_) (fun c_41_24 => ?_)
          · exact absurd c_41_24 (by decide)
          · have t_41_24 := c_41_24
            try simp only [kb_eq0, kb_ne0, lg_cmp_lt, lg_cmp_le, lg_cmp_gt, lg_cmp_ge, lg_cmp_eq] at t_41_24
            try simp only [Int32.lt_iff_toInt_lt, Int32.le_iff_toInt_le, ← Int32.toInt_inj, Int64.lt_iff_toInt_lt, Int64.le_iff_toInt_le, ← Int64.toInt_inj, Int32.toInt_toInt64, Int32.reduceToInt, Int64.reduceToInt] at t_41_24
            refine lv_aload_n hx hb dX5_takeBytes_44 rfl (lv_at hl 1 rfl) ?_
            refine va_get (D := D) (ci := 5) (v := .ref bX) (C := RX5) (T := TX5) (N := 7) hx hb hts iX5_takeBytes_X5 hown hK hP 0 rfl rfl 0 (by decide) (hts (.fieldLink RX5 9 "TapeCalculator$Text" "bytes" "[B") (List.mem_of_getElem? (i := 2) rfl)) (fun _ h9 => h9) rfl dX5_takeBytes_45 ?_
            refine lv_aload_n hx hb dX5_takeBytes_48 rfl (lv_at hl 1 rfl) ?_
            refine va_get (D := D) (ci := 5) (v := .int 0) (C := RX5) (T := TX5) (N := 7) hx hb hts iX5_takeBytes_X5 hown hK hP 0 rfl rfl 1 (by decide) (hts (.fieldLink RX5 19 "TapeCalculator$Text" "length" "I") (List.mem_of_getElem? (i := 1) rfl)) (fun _ h9 => h9) rfl dX5_takeBytes_49 ?_
            refine lv_lload_n hx hb dX5_takeBytes_52 rfl (lv_at hl 2 rfl) ?_
            refine lv_bipush (v := 8) hx hb dX5_takeBytes_53 (by decide) ?_
            refine lv_iload hx hb dX5_takeBytes_55 (lv_at hl 0 rfl) ?_
            refine lv_imul hx hb dX5_takeBytes_57 ?_
            refine lv_topi (fun x_26 ex_26 => ?_)
            obtain rfl : x_26 = 0 := ex_26.trans (by decide)
            refine lv_lshr hx hb dX5_takeBytes_58 rfl ?_
            refine lv_l2i hx hb dX5_takeBytes_59 rfl ?_
            refine lv_i2b hx hb dX5_takeBytes_60 rfl ?_
            refine va_bast hx hb hK hP hD hS 1 2 rfl rfl (vp_in_iff.mpr (by decide)) dX5_takeBytes_61 (fun H locs hP hD hS => ?_)
            have hP : va_P D vwCl [(aX, .inr (5, [.ref bX, .int 0, .int (-1), .int 0, .int 0, .int 0, .long 0])), (bX, .inl (cB, 2000, .inl (upd (fun _ => 0) (0 : Int32).toNatClampNeg (vp_nar .byte (v >>> ((0 : Int32).toInt64 &&& 63)).toInt32.toInt8.toInt32))))] H := hP
            have hD : va_D A [(aX, .inr (5, [.ref bX, .int 0, .int (-1), .int 0, .int 0, .int 0, .long 0])), (bX, .inl (cB, 2000, .inl (upd (fun _ => 0) (0 : Int32).toNatClampNeg (vp_nar .byte (v >>> ((0 : Int32).toInt64 &&& 63)).toInt32.toInt8.toInt32))))] := hD
            refine lv_aload_n hx hb dX5_takeBytes_62 rfl (lv_at hl 1 rfl) ?_
            refine lv_dup hx hb dX5_takeBytes_63 rfl ?_
            refine va_get (D := D) (ci := 5) (v := .int 0) (C := RX5) (T := TX5) (N := 7) hx hb hts iX5_takeBytes_X5 hown hK hP 0 rfl rfl 1 (by decide) (hts (.fieldLink RX5 19 "TapeCalculator$Text" "length" "I") (List.mem_of_getElem? (i := 1) rfl)) (fun _ h9 => h9) rfl dX5_takeBytes_64 ?_
            refine lv_iconst (v := 1) hx hb dX5_takeBytes_67 (by decide) ?_
            refine lv_iadd hx hb dX5_takeBytes_68 ?_
            refine lv_topi (fun x_27 ex_27 => ?_)
            obtain rfl : x_27 = 1 := ex_27.trans (by decide)
            refine va_put (D := D) (ci := 5) (v := .int 1) (ty := .int) (C := RX5) (T := TX5) (N := 7) hx hb hts iX5_takeBytes_X5 tyX5 tyX5_ok nmX5 hown hK hP hD hS 0 rfl rfl 1 (by decide) (hts (.fieldLink RX5 19 "TapeCalculator$Text" "length" "I") (List.mem_of_getElem? (i := 1) rfl)) (fun _ h9 => h9) rfl (by decide +kernel) rfl rfl (Nat.le_of_ble_eq_true rfl) dX5_takeBytes_69 (fun H locs hP hD hS => ?_)
            have hP : va_P D vwCl [(aX, .inr (5, [.ref bX, .int 1, .int (-1), .int 0, .int 0, .int 0, .long 0])), (bX, .inl (cB, 2000, .inl (upd (fun _ => 0) (0 : Int32).toNatClampNeg (vp_nar .byte (v >>> ((0 : Int32).toInt64 &&& 63)).toInt32.toInt8.toInt32))))] H := hP
            have hD : va_D A [(aX, .inr (5, [.ref bX, .int 1, .int (-1), .int 0, .int 0, .int 0, .long 0])), (bX, .inl (cB, 2000, .inl (upd (fun _ => 0) (0 : Int32).toNatClampNeg (vp_nar .byte (v >>> ((0 : Int32).toInt64 &&& 63)).toInt32.toInt8.toInt32))))] := hD
            refine lv_iinc (v := 1) (lv' := [(4, .int 1), (0, .ref aX), (1, .long v), (3, .int 3)]) hx hb dX5_takeBytes_72 hl (k := 0) rfl (by decide) (by decide) rfl (fun ls hl => ?_)
            refine lv_goto (tgt := 26) hx hb dX5_takeBytes_75 (by decide) ?_
            refine lv_iload hx hb dX5_takeBytes_26 (lv_at hl 0 rfl) ?_
            refine lv_iload_n hx hb dX5_takeBytes_28 rfl (lv_at hl 3 rfl) ?_
            refine lv_icmp_ge (tgt := 78) hx hb dX5_takeBytes_29 (by decide) (fun c_29_27 => ?_) (fun c_29_27 => ?_)
            · exact absurd c_29_27 (by decide)
            · have t_29_27 := c_29_27
              try simp only [kb_eq0, kb_ne0, lg_cmp_lt, lg_cmp_le, lg_cmp_gt, lg_cmp_ge, lg_cmp_eq] at t_29_27
              try simp only [Int32.lt_iff_toInt_lt, Int32.le_iff_toInt_le, ← Int32.toInt_inj, Int64.lt_iff_toInt_lt, Int64.le_iff_toInt_le, ← Int64.toInt_inj, Int32.toInt_toInt64, Int32.reduceToInt, Int64.reduceToInt] at t_29_27
              refine lv_aload_n hx hb dX5_takeBytes_32 rfl (lv_at hl 1 rfl) ?_
              refine va_get (D := D) (ci := 5) (v := .int 1) (C := RX5) (T := TX5) (N := 7) hx hb hts iX5_takeBytes_X5 hown hK hP 0 rfl rfl 1 (by decide) (hts (.fieldLink RX5 19 "TapeCalculator$Text" "length" "I") (List.mem_of_getElem? (i := 1) rfl)) (fun _ h9 => h9) rfl dX5_takeBytes_33 ?_
              refine lv_aload_n hx hb dX5_takeBytes_36 rfl (lv_at hl 1 rfl) ?_
              refine va_get (D := D) (ci := 5) (v := .ref bX) (C := RX5) (T := TX5) (N := 7) hx hb hts iX5_takeBytes_X5 hown hK hP 0 rfl rfl 0 (by decide) (hts (.fieldLink RX5 9 "TapeCalculator$Text" "bytes" "[B") (List.mem_of_getElem? (i := 2) rfl)) (fun _ h9 => h9) rfl dX5_takeBytes_37 ?_
              refine va_alen hx hb hK hP 1 2 rfl rfl (v := 2000) rfl dX5_takeBytes_40 ?_
              refine lv_icmp_ge (tgt := 78) hx hb dX5_takeBytes_41 (by decide) (fun c_41_28 => ?_) (fun c_41_28 => ?_)
              · exact absurd c_41_28 (by decide)
              · have t_41_28 := c_41_28
                try simp only [kb_eq0, kb_ne0, lg_cmp_lt, lg_cmp_le, lg_cmp_gt, lg_cmp_ge, lg_cmp_eq] at t_41_28
                try simp only [Int32.lt_iff_toInt_lt, Int32.le_iff_toInt_le, ← Int32.toInt_inj, Int64.lt_iff_toInt_lt, Int64.le_iff_toInt_le, ← Int64.toInt_inj, Int32.toInt_toInt64, Int32.reduceToInt, Int64.reduceToInt] at t_41_28
                refine lv_aload_n hx hb dX5_takeBytes_44 rfl (lv_at hl 1 rfl) ?_
                refine va_get (D := D) (ci := 5) (v := .ref bX) (C := RX5) (T := TX5) (N := 7) hx hb hts iX5_takeBytes_X5 hown hK hP 0 rfl rfl 0 (by decide) (hts (.fieldLink RX5 9 "TapeCalculator$Text" "bytes" "[B") (List.mem_of_getElem? (i := 2) rfl)) (fun _ h9 => h9) rfl dX5_takeBytes_45 ?_
                refine lv_aload_n hx hb dX5_takeBytes_48 rfl (lv_at hl 1 rfl) ?_
                refine va_get (D := D) (ci := 5) (v := .int 1) (C := RX5) (T := TX5) (N := 7) hx hb hts iX5_takeBytes_X5 hown hK hP 0 rfl rfl 1 (by decide) (hts (.fieldLink RX5 19 "TapeCalculator$Text" "length" "I") (List.mem_of_getElem? (i := 1) rfl)) (fun _ h9 => h9) rfl dX5_takeBytes_49 ?_
                refine lv_lload_n hx hb dX5_takeBytes_52 rfl (lv_at hl 2 rfl) ?_
                refine lv_bipush (v := 8) hx hb dX5_takeBytes_53 (by decide) ?_
                refine lv_iload hx hb dX5_takeBytes_55 (lv_at hl 0 rfl) ?_
                refine lv_imul hx hb dX5_takeBytes_57 ?_
                refine lv_topi (fun x_30 ex_30 => ?_)
                obtain rfl : x_30 = 8 := ex_30.trans (by decide)
                refine lv_lshr hx hb dX5_takeBytes_58 rfl ?_
                refine lv_l2i hx hb dX5_takeBytes_59 rfl ?_
                refine lv_i2b hx hb dX5_takeBytes_60 rfl ?_
                refine va_bast hx hb hK hP hD hS 1 2 rfl rfl (vp_in_iff.mpr (by decide)) dX5_takeBytes_61 (fun H locs hP hD hS => ?_)
                have hP : va_P D vwCl [(aX, .inr (5, [.ref bX, .int 1, .int (-1), .int 0, .int 0, .int 0, .long 0])), (bX, .inl (cB, 2000, .inl (upd (upd (fun _ => 0) (0 : Int32).toNatClampNeg (vp_nar .byte (v >>> ((0 : Int32).toInt64 &&& 63)).toInt32.toInt8.toInt32)) (1 : Int32).toNatClampNeg (vp_nar .byte (v >>> ((8 : Int32).toInt64 &&& 63)).toInt32.toInt8.toInt32))))] H := hP
                have hD : va_D A [(aX, .inr (5, [.ref bX, .int 1, .int (-1), .int 0, .int 0, .int 0, .long 0])), (bX, .inl (cB, 2000, .inl (upd (upd (fun _ => 0) (0 : Int32).toNatClampNeg (vp_nar .byte (v >>> ((0 : Int32).toInt64 &&& 63)).toInt32.toInt8.toInt32)) (1 : Int32).toNatClampNeg (vp_nar .byte (v >>> ((8 : Int32).toInt64 &&& 63)).toInt32.toInt8.toInt32))))] := hD
                refine lv_aload_n hx hb dX5_takeBytes_62 rfl (lv_at hl 1 rfl) ?_
                refine lv_dup hx hb dX5_takeBytes_63 rfl ?_
                refine va_get (D := D) (ci := 5) (v := .int 1) (C := RX5) (T := TX5) (N := 7) hx hb hts iX5_takeBytes_X5 hown hK hP 0 rfl rfl 1 (by decide) (hts (.fieldLink RX5 19 "TapeCalculator$Text" "length" "I") (List.mem_of_getElem? (i := 1) rfl)) (fun _ h9 => h9) rfl dX5_takeBytes_64 ?_
                refine lv_iconst (v := 1) hx hb dX5_takeBytes_67 (by decide) ?_
                refine lv_iadd hx hb dX5_takeBytes_68 ?_
                refine lv_topi (fun x_31 ex_31 => ?_)
                obtain rfl : x_31 = 2 := ex_31.trans (by decide)
                refine va_put (D := D) (ci := 5) (v := .int 2) (ty := .int) (C := RX5) (T := TX5) (N := 7) hx hb hts iX5_takeBytes_X5 tyX5 tyX5_ok nmX5 hown hK hP hD hS 0 rfl rfl 1 (by decide) (hts (.fieldLink RX5 19 "TapeCalculator$Text" "length" "I") (List.mem_of_getElem? (i := 1) rfl)) (fun _ h9 => h9) rfl (by decide +kernel) rfl rfl (Nat.le_of_ble_eq_true rfl) dX5_takeBytes_69 (fun H locs hP hD hS => ?_)
                have hP : va_P D vwCl [(aX, .inr (5, [.ref bX, .int 2, .int (-1), .int 0, .int 0, .int 0, .long 0])), (bX, .inl (cB, 2000, .inl (upd (upd (fun _ => 0) (0 : Int32).toNatClampNeg (vp_nar .byte (v >>> ((0 : Int32).toInt64 &&& 63)).toInt32.toInt8.toInt32)) (1 : Int32).toNatClampNeg (vp_nar .byte (v >>> ((8 : Int32).toInt64 &&& 63)).toInt32.toInt8.toInt32))))] H := hP
                have hD : va_D A [(aX, .inr (5, [.ref bX, .int 2, .int (-1), .int 0, .int 0, .int 0, .long 0])), (bX, .inl (cB, 2000, .inl (upd (upd (fun _ => 0) (0 : Int32).toNatClampNeg (vp_nar .byte (v >>> ((0 : Int32).toInt64 &&& 63)).toInt32.toInt8.toInt32)) (1 : Int32).toNatClampNeg (vp_nar .byte (v >>> ((8 : Int32).toInt64 &&& 63)).toInt32.toInt8.toInt32))))] := hD
                refine lv_iinc (v := 2) (lv' := [(4, .int 2), (0, .ref aX), (1, .long v), (3, .int 3)]) hx hb dX5_takeBytes_72 hl (k := 0) rfl (by decide) (by decide) rfl (fun ls hl => ?_)
                refine lv_goto (tgt := 26) hx hb dX5_takeBytes_75 (by decide) ?_
                refine lv_iload hx hb dX5_takeBytes_26 (lv_at hl 0 rfl) ?_
                refine lv_iload_n hx hb dX5_takeBytes_28 rfl (lv_at hl 3 rfl) ?_
                refine lv_icmp_ge (tgt := 78) hx hb dX5_takeBytes_29 (by decide) (fun c_29_31 => ?_) (fun c_29_31 => ?_)
                · exact absurd c_29_31 (by decide)
                · have t_29_31 := c_29_31
                  try simp only [kb_eq0, kb_ne0, lg_cmp_lt, lg_cmp_le, lg_cmp_gt, lg_cmp_ge, lg_cmp_eq] at t_29_31
                  try simp only [Int32.lt_iff_toInt_lt, Int32.le_iff_toInt_le, ← Int32.toInt_inj, Int64.lt_iff_toInt_lt, Int64.le_iff_toInt_le, ← Int64.toInt_inj, Int32.toInt_toInt64, Int32.reduceToInt, Int64.reduceToInt] at t_29_31
                  refine lv_aload_n hx hb dX5_takeBytes_32 rfl (lv_at hl 1 rfl) ?_
                  refine va_get (D := D) (ci := 5) (v := .int 2) (C := RX5) (T := TX5) (N := 7) hx hb hts iX5_takeBytes_X5 hown hK hP 0 rfl rfl 1 (by decide) (hts (.fieldLink RX5 19 "TapeCalculator$Text" "length" "I") (List.mem_of_getElem? (i := 1) rfl)) (fun _ h9 => h9) rfl dX5_takeBytes_33 ?_
                  refine lv_aload_n hx hb dX5_takeBytes_36 rfl (lv_at hl 1 rfl) ?_
                  refine va_get (D := D) (ci := 5) (v := .ref bX) (C := RX5) (T := TX5) (N := 7) hx hb hts iX5_takeBytes_X5 hown hK hP 0 rfl rfl 0 (by decide) (hts (.fieldLink RX5 9 "TapeCalculator$Text" "bytes" "[B") (List.mem_of_getElem? (i := 2) rfl)) (fun _ h9 => h9) rfl dX5_takeBytes_37 ?_
                  refine va_alen hx hb hK hP 1 2 rfl rfl (v := 2000) rfl dX5_takeBytes_40 ?_
                  refine lv_icmp_ge (tgt := 78) hx hb dX5_takeBytes_41 (by decide) (fun c_41_32 => ?_) (fun c_41_32 => ?_)
                  · exact absurd c_41_32 (by decide)
                  · have t_41_32 := c_41_32
                    try simp only [kb_eq0, kb_ne0, lg_cmp_lt, lg_cmp_le, lg_cmp_gt, lg_cmp_ge, lg_cmp_eq] at t_41_32
                    try simp only [Int32.lt_iff_toInt_lt, Int32.le_iff_toInt_le, ← Int32.toInt_inj, Int64.lt_iff_toInt_lt, Int64.le_iff_toInt_le, ← Int64.toInt_inj, Int32.toInt_toInt64, Int32.reduceToInt, Int64.reduceToInt] at t_41_32
                    refine lv_aload_n hx hb dX5_takeBytes_44 rfl (lv_at hl 1 rfl) ?_
                    refine va_get (D := D) (ci := 5) (v := .ref bX) (C := RX5) (T := TX5) (N := 7) hx hb hts iX5_takeBytes_X5 hown hK hP 0 rfl rfl 0 (by decide) (hts (.fieldLink RX5 9 "TapeCalculator$Text" "bytes" "[B") (List.mem_of_getElem? (i := 2) rfl)) (fun _ h9 => h9) rfl dX5_takeBytes_45 ?_
                    refine lv_aload_n hx hb dX5_takeBytes_48 rfl (lv_at hl 1 rfl) ?_
                    refine va_get (D := D) (ci := 5) (v := .int 2) (C := RX5) (T := TX5) (N := 7) hx hb hts iX5_takeBytes_X5 hown hK hP 0 rfl rfl 1 (by decide) (hts (.fieldLink RX5 19 "TapeCalculator$Text" "length" "I") (List.mem_of_getElem? (i := 1) rfl)) (fun _ h9 => h9) rfl dX5_takeBytes_49 ?_
                    refine lv_lload_n hx hb dX5_takeBytes_52 rfl (lv_at hl 2 rfl) ?_
                    refine lv_bipush (v := 8) hx hb dX5_takeBytes_53 (by decide) ?_
                    refine lv_iload hx hb dX5_takeBytes_55 (lv_at hl 0 rfl) ?_
                    refine lv_imul hx hb dX5_takeBytes_57 ?_
                    refine lv_topi (fun x_34 ex_34 => ?_)
                    obtain rfl : x_34 = 16 := ex_34.trans (by decide)
                    refine lv_lshr hx hb dX5_takeBytes_58 rfl ?_
                    refine lv_l2i hx hb dX5_takeBytes_59 rfl ?_
                    refine lv_i2b hx hb dX5_takeBytes_60 rfl ?_
                    refine va_bast hx hb hK hP hD hS 1 2 rfl rfl (vp_in_iff.mpr (by decide)) dX5_takeBytes_61 (fun H locs hP hD hS => ?_)
                    have hP : va_P D vwCl [(aX, .inr (5, [.ref bX, .int 2, .int (-1), .int 0, .int 0, .int 0, .long 0])), (bX, .inl (cB, 2000, .inl (upd (upd (upd (fun _ => 0) (0 : Int32).toNatClampNeg (vp_nar .byte (v >>> ((0 : Int32).toInt64 &&& 63)).toInt32.toInt8.toInt32)) (1 : Int32).toNatClampNeg (vp_nar .byte (v >>> ((8 : Int32).toInt64 &&& 63)).toInt32.toInt8.toInt32)) (2 : Int32).toNatClampNeg (vp_nar .byte (v >>> ((16 : Int32).toInt64 &&& 63)).toInt32.toInt8.toInt32))))] H := hP
                    have hD : va_D A [(aX, .inr (5, [.ref bX, .int 2, .int (-1), .int 0, .int 0, .int 0, .long 0])), (bX, .inl (cB, 2000, .inl (upd (upd (upd (fun _ => 0) (0 : Int32).toNatClampNeg (vp_nar .byte (v >>> ((0 : Int32).toInt64 &&& 63)).toInt32.toInt8.toInt32)) (1 : Int32).toNatClampNeg (vp_nar .byte (v >>> ((8 : Int32).toInt64 &&& 63)).toInt32.toInt8.toInt32)) (2 : Int32).toNatClampNeg (vp_nar .byte (v >>> ((16 : Int32).toInt64 &&& 63)).toInt32.toInt8.toInt32))))] := hD
                    refine lv_aload_n hx hb dX5_takeBytes_62 rfl (lv_at hl 1 rfl) ?_
                    refine lv_dup hx hb dX5_takeBytes_63 rfl ?_
                    refine va_get (D := D) (ci := 5) (v := .int 2) (C := RX5) (T := TX5) (N := 7) hx hb hts iX5_takeBytes_X5 hown hK hP 0 rfl rfl 1 (by decide) (hts (.fieldLink RX5 19 "TapeCalculator$Text" "length" "I") (List.mem_of_getElem? (i := 1) rfl)) (fun _ h9 => h9) rfl dX5_takeBytes_64 ?_
                    refine lv_iconst (v := 1) hx hb dX5_takeBytes_67 (by decide) ?_
                    refine lv_iadd hx hb dX5_takeBytes_68 ?_
                    refine lv_topi (fun x_35 ex_35 => ?_)
                    obtain rfl : x_35 = 3 := ex_35.trans (by decide)
                    refine va_put (D := D) (ci := 5) (v := .int 3) (ty := .int) (C := RX5) (T := TX5) (N := 7) hx hb hts iX5_takeBytes_X5 tyX5 tyX5_ok nmX5 hown hK hP hD hS 0 rfl rfl 1 (by decide) (hts (.fieldLink RX5 19 "TapeCalculator$Text" "length" "I") (List.mem_of_getElem? (i := 1) rfl)) (fun _ h9 => h9) rfl (by decide +kernel) rfl rfl (Nat.le_of_ble_eq_true rfl) dX5_takeBytes_69 (fun H locs hP hD hS => ?_)
                    have hP : va_P D vwCl [(aX, .inr (5, [.ref bX, .int 3, .int (-1), .int 0, .int 0, .int 0, .long 0])), (bX, .inl (cB, 2000, .inl (upd (upd (upd (fun _ => 0) (0 : Int32).toNatClampNeg (vp_nar .byte (v >>> ((0 : Int32).toInt64 &&& 63)).toInt32.toInt8.toInt32)) (1 : Int32).toNatClampNeg (vp_nar .byte (v >>> ((8 : Int32).toInt64 &&& 63)).toInt32.toInt8.toInt32)) (2 : Int32).toNatClampNeg (vp_nar .byte (v >>> ((16 : Int32).toInt64 &&& 63)).toInt32.toInt8.toInt32))))] H := hP
                    have hD : va_D A [(aX, .inr (5, [.ref bX, .int 3, .int (-1), .int 0, .int 0, .int 0, .long 0])), (bX, .inl (cB, 2000, .inl (upd (upd (upd (fun _ => 0) (0 : Int32).toNatClampNeg (vp_nar .byte (v >>> ((0 : Int32).toInt64 &&& 63)).toInt32.toInt8.toInt32)) (1 : Int32).toNatClampNeg (vp_nar .byte (v >>> ((8 : Int32).toInt64 &&& 63)).toInt32.toInt8.toInt32)) (2 : Int32).toNatClampNeg (vp_nar .byte (v >>> ((16 : Int32).toInt64 &&& 63)).toInt32.toInt8.toInt32))))] := hD
                    refine lv_iinc (v := 3) (lv' := [(4, .int 3), (0, .ref aX), (1, .long v), (3, .int 3)]) hx hb dX5_takeBytes_72 hl (k := 0) rfl (by decide) (by decide) rfl (fun ls hl => ?_)
                    refine lv_goto (tgt := 26) hx hb dX5_takeBytes_75 (by decide) ?_
                    refine lv_iload hx hb dX5_takeBytes_26 (lv_at hl 0 rfl) ?_
                    refine lv_iload_n hx hb dX5_takeBytes_28 rfl (lv_at hl 3 rfl) ?_
                    refine lv_icmp_ge (tgt := 78) hx hb dX5_takeBytes_29 (by decide) (fun c_29_35 => ?_) (fun c_29_35 => ?_)
                    · have t_29_35 := c_29_35
                      try simp only [kb_eq0, kb_ne0, lg_cmp_lt, lg_cmp_le, lg_cmp_gt, lg_cmp_ge, lg_cmp_eq] at t_29_35
                      try simp only [Int32.lt_iff_toInt_lt, Int32.le_iff_toInt_le, ← Int32.toInt_inj, Int64.lt_iff_toInt_lt, Int64.le_iff_toInt_le, ← Int64.toInt_inj, Int32.toInt_toInt64, Int32.reduceToInt, Int64.reduceToInt] at t_29_35
                      refine lv_iconst (v := 1) hx hb dX5_takeBytes_78 (by decide) ?_
                      refine kIret (u := (upd (upd (upd (fun _ => 0) (0 : Int32).toNatClampNeg (vp_nar .byte (v >>> ((0 : Int32).toInt64 &&& 63)).toInt32.toInt8.toInt32)) (1 : Int32).toNatClampNeg (vp_nar .byte (v >>> ((8 : Int32).toInt64 &&& 63)).toInt32.toInt8.toInt32)) (2 : Int32).toNatClampNeg (vp_nar .byte (v >>> ((16 : Int32).toInt64 &&& 63)).toInt32.toInt8.toInt32))) hx hb hr rfl hlocks hS dX5_takeBytes_79 ?_ (hP.sub [0, 1] rfl) (hD.sub [0, 1] (by decide) rfl)
                      exact rfl
                    · exact absurd (by decide) c_29_35
      · exact absurd (by decide) c_18_22
  · refine lv_aload_n hx hb dX5_takeBytes_0 rfl (lv_at hl 0 rfl) ?_
    refine va_get (D := D) (ci := 5) (v := .int 0) (C := RX5) (T := TX5) (N := 7) hx hb hts iX5_takeBytes_X5 hown hK hP 0 rfl rfl 1 (by decide) (hts (.fieldLink RX5 19 "TapeCalculator$Text" "length" "I") (List.mem_of_getElem? (i := 1) rfl)) (fun _ h9 => h9) rfl dX5_takeBytes_1 ?_
    refine lv_if_lt (tgt := 21) hx hb dX5_takeBytes_4 (by decide) (fun c_4_36 => ?_) (fun c_4_36 => ?_)
    · exact absurd c_4_36 (by decide)
    · have t_4_36 := c_4_36
      try simp only [kb_eq0, kb_ne0, lg_cmp_lt, lg_cmp_le, lg_cmp_gt, lg_cmp_ge, lg_cmp_eq] at t_4_36
      try simp only [Int32.lt_iff_toInt_lt, Int32.le_iff_toInt_le, ← Int32.toInt_inj, Int64.lt_iff_toInt_lt, Int64.le_iff_toInt_le, ← Int64.toInt_inj, Int32.toInt_toInt64, Int32.reduceToInt, Int64.reduceToInt] at t_4_36
      refine lv_aload_n hx hb dX5_takeBytes_7 rfl (lv_at hl 0 rfl) ?_
      refine va_get (D := D) (ci := 5) (v := .int 0) (C := RX5) (T := TX5) (N := 7) hx hb hts iX5_takeBytes_X5 hown hK hP 0 rfl rfl 1 (by decide) (hts (.fieldLink RX5 19 "TapeCalculator$Text" "length" "I") (List.mem_of_getElem? (i := 1) rfl)) (fun _ h9 => h9) rfl dX5_takeBytes_8 ?_
      refine lv_iload_n hx hb dX5_takeBytes_11 rfl (lv_at hl 2 rfl) ?_
      refine lv_iadd hx hb dX5_takeBytes_12 ?_
      refine lv_topi (fun x_38 ex_38 => ?_)
      obtain rfl : x_38 = 4 := ex_38.trans (by decide)
      refine lv_aload_n hx hb dX5_takeBytes_13 rfl (lv_at hl 0 rfl) ?_
      refine va_get (D := D) (ci := 5) (v := .ref bX) (C := RX5) (T := TX5) (N := 7) hx hb hts iX5_takeBytes_X5 hown hK hP 0 rfl rfl 0 (by decide) (hts (.fieldLink RX5 9 "TapeCalculator$Text" "bytes" "[B") (List.mem_of_getElem? (i := 2) rfl)) (fun _ h9 => h9) rfl dX5_takeBytes_14 ?_
      refine va_alen hx hb hK hP 1 2 rfl rfl (v := 2000) rfl dX5_takeBytes_17 ?_
      refine lv_icmp_le (tgt := 23) hx hb dX5_takeBytes_18 (by decide) (fun c_18_38 => ?_) (fun c_18_38 => ?_)
      · have t_18_38 := c_18_38
        try simp only [kb_eq0, kb_ne0, lg_cmp_lt, lg_cmp_le, lg_cmp_gt, lg_cmp_ge, lg_cmp_eq] at t_18_38
        try simp only [Int32.lt_iff_toInt_lt, Int32.le_iff_toInt_le, ← Int32.toInt_inj, Int64.lt_iff_toInt_lt, Int64.le_iff_toInt_le, ← Int64.toInt_inj, Int32.toInt_toInt64, Int32.reduceToInt, Int64.reduceToInt] at t_18_38
        refine lv_iconst (v := 0) hx hb dX5_takeBytes_23 (by decide) ?_
        refine lv_istore (lv' := [(4, .int 0), (0, .ref aX), (1, .long v), (3, .int 4)]) hx hb dX5_takeBytes_24 hl (by decide) rfl (fun ls hl => ?_)
        refine lv_iload hx hb dX5_takeBytes_26 (lv_at hl 0 rfl) ?_
        refine lv_iload_n hx hb dX5_takeBytes_28 rfl (lv_at hl 3 rfl) ?_
        refine lv_icmp_ge (tgt := 78) hx hb dX5_takeBytes_29 (by decide) (fun c_29_39 => ?_) (fun c_29_39 => ?_)
        · exact absurd c_29_39 (by decide)
        · have t_29_39 := c_29_39
          try simp only [kb_eq0, kb_ne0, lg_cmp_lt, lg_cmp_le, lg_cmp_gt, lg_cmp_ge, lg_cmp_eq] at t_29_39
          try simp only [Int32.lt_iff_toInt_lt, Int32.le_iff_toInt_le, ← Int32.toInt_inj, Int64.lt_iff_toInt_lt, Int64.le_iff_toInt_le, ← Int64.toInt_inj, Int32.toInt_toInt64, Int32.reduceToInt, Int64.reduceToInt] at t_29_39
          refine lv_aload_n hx hb dX5_takeBytes_32 rfl (lv_at hl 1 rfl) ?_
          refine va_get (D := D) (ci := 5) (v := .int 0) (C := RX5) (T := TX5) (N := 7) hx hb hts iX5_takeBytes_X5 hown hK hP 0 rfl rfl 1 (by decide) (hts (.fieldLink RX5 19 "TapeCalculator$Text" "length" "I") (List.mem_of_getElem? (i := 1) rfl)) (fun _ h9 => h9) rfl dX5_takeBytes_33 ?_
          refine lv_aload_n hx hb dX5_takeBytes_36 rfl (lv_at hl 1 rfl) ?_
          refine va_get (D := D) (ci := 5) (v := .ref bX) (C := RX5) (T := TX5) (N := 7) hx hb hts iX5_takeBytes_X5 hown hK hP 0 rfl rfl 0 (by decide) (hts (.fieldLink RX5 9 "TapeCalculator$Text" "bytes" "[B") (List.mem_of_getElem? (i := 2) rfl)) (fun _ h9 => h9) rfl dX5_takeBytes_37 ?_
          refine va_alen hx hb hK hP 1 2 rfl rfl (v := 2000) rfl dX5_takeBytes_40 ?_
          refine lv_icmp_ge (tgt := 78) hx hb dX5_takeBytes_41 (by decide) (fun c_41_40 => ?_) (fun c_41_40 => ?_)
          · exact absurd c_41_40 (by decide)
          · have t_41_40 := c_41_40
            try simp only [kb_eq0, kb_ne0, lg_cmp_lt, lg_cmp_le, lg_cmp_gt, lg_cmp_ge, lg_cmp_eq] at t_41_40
            try simp only [Int32.lt_iff_toInt_lt, Int32.le_iff_toInt_le, ← Int32.toInt_inj, Int64.lt_iff_toInt_lt, Int64.le_iff_toInt_le, ← Int64.toInt_inj, Int32.toInt_toInt64, Int32.reduceToInt, Int64.reduceToInt] at t_41_40
            refine lv_aload_n hx hb dX5_takeBytes_44 rfl (lv_at hl 1 rfl) ?_
            refine va_get (D := D) (ci := 5) (v := .ref bX) (C := RX5) (T := TX5) (N := 7) hx hb hts iX5_takeBytes_X5 hown hK hP 0 rfl rfl 0 (by decide) (hts (.fieldLink RX5 9 "TapeCalculator$Text" "bytes" "[B") (List.mem_of_getElem? (i := 2) rfl)) (fun _ h9 => h9) rfl dX5_takeBytes_45 ?_
            refine lv_aload_n hx hb dX5_takeBytes_48 rfl (lv_at hl 1 rfl) ?_
            refine va_get (D := D) (ci := 5) (v := .int 0) (C := RX5) (T := TX5) (N := 7) hx hb hts iX5_takeBytes_X5 hown hK hP 0 rfl rfl 1 (by decide) (hts (.fieldLink RX5 19 "TapeCalculator$Text" "length" "I") (List.mem_of_getElem? (i := 1) rfl)) (fun _ h9 => h9) rfl dX5_takeBytes_49 ?_
            refine lv_lload_n hx hb dX5_takeBytes_52 rfl (lv_at hl 2 rfl) ?_
            refine lv_bipush (v := 8) hx hb dX5_takeBytes_53 (by decide) ?_
            refine lv_iload hx hb dX5_takeBytes_55 (lv_at hl 0 rfl) ?_
            refine lv_imul hx hb dX5_takeBytes_57 ?_
            refine lv_topi (fun x_42 ex_42 => ?_)
            obtain rfl : x_42 = 0 := ex_42.trans (by decide)
            refine lv_lshr hx hb dX5_takeBytes_58 rfl ?_
            refine lv_l2i hx hb dX5_takeBytes_59 rfl ?_
            refine lv_i2b hx hb dX5_takeBytes_60 rfl ?_
            refine va_bast hx hb hK hP hD hS 1 2 rfl rfl (vp_in_iff.mpr (by decide)) dX5_takeBytes_61 (fun H locs hP hD hS => ?_)
            have hP : va_P D vwCl [(aX, .inr (5, [.ref bX, .int 0, .int (-1), .int 0, .int 0, .int 0, .long 0])), (bX, .inl (cB, 2000, .inl (upd (fun _ => 0) (0 : Int32).toNatClampNeg (vp_nar .byte (v >>> ((0 : Int32).toInt64 &&& 63)).toInt32.toInt8.toInt32))))] H := hP
            have hD : va_D A [(aX, .inr (5, [.ref bX, .int 0, .int (-1), .int 0, .int 0, .int 0, .long 0])), (bX, .inl (cB, 2000, .inl (upd (fun _ => 0) (0 : Int32).toNatClampNeg (vp_nar .byte (v >>> ((0 : Int32).toInt64 &&& 63)).toInt32.toInt8.toInt32))))] := hD
            refine lv_aload_n hx hb dX5_takeBytes_62 rfl (lv_at hl 1 rfl) ?_
            refine lv_dup hx hb dX5_takeBytes_63 rfl ?_
            refine va_get (D := D) (ci := 5) (v := .int 0) (C := RX5) (T := TX5) (N := 7) hx hb hts iX5_takeBytes_X5 hown hK hP 0 rfl rfl 1 (by decide) (hts (.fieldLink RX5 19 "TapeCalculator$Text" "length" "I") (List.mem_of_getElem? (i := 1) rfl)) (fun _ h9 => h9) rfl dX5_takeBytes_64 ?_
            refine lv_iconst (v := 1) hx hb dX5_takeBytes_67 (by decide) ?_
            refine lv_iadd hx hb dX5_takeBytes_68 ?_
            refine lv_topi (fun x_43 ex_43 => ?_)
            obtain rfl : x_43 = 1 := ex_43.trans (by decide)
            refine va_put (D := D) (ci := 5) (v := .int 1) (ty := .int) (C := RX5) (T := TX5) (N := 7) hx hb hts iX5_takeBytes_X5 tyX5 tyX5_ok nmX5 hown hK hP hD hS 0 rfl rfl 1 (by decide) (hts (.fieldLink RX5 19 "TapeCalculator$Text" "length" "I") (List.mem_of_getElem? (i := 1) rfl)) (fun _ h9 => h9) rfl (by decide +kernel) rfl rfl (Nat.le_of_ble_eq_true rfl) dX5_takeBytes_69 (fun H locs hP hD hS => ?_)
            have hP : va_P D vwCl [(aX, .inr (5, [.ref bX, .int 1, .int (-1), .int 0, .int 0, .int 0, .long 0])), (bX, .inl (cB, 2000, .inl (upd (fun _ => 0) (0 : Int32).toNatClampNeg (vp_nar .byte (v >>> ((0 : Int32).toInt64 &&& 63)).toInt32.toInt8.toInt32))))] H := hP
            have hD : va_D A [(aX, .inr (5, [.ref bX, .int 1, .int (-1), .int 0, .int 0, .int 0, .long 0])), (bX, .inl (cB, 2000, .inl (upd (fun _ => 0) (0 : Int32).toNatClampNeg (vp_nar .byte (v >>> ((0 : Int32).toInt64 &&& 63)).toInt32.toInt8.toInt32))))] := hD
            refine lv_iinc (v := 1) (lv' := [(4, .int 1), (0, .ref aX), (1, .long v), (3, .int 4)]) hx hb dX5_takeBytes_72 hl (k := 0) rfl (by decide) (by decide) rfl (fun ls hl => ?_)
            refine lv_goto (tgt := 26) hx hb dX5_takeBytes_75 (by decide) ?_
            refine lv_iload hx hb dX5_takeBytes_26 (lv_at hl 0 rfl) ?_
            refine lv_iload_n hx hb dX5_takeBytes_28 rfl (lv_at hl 3 rfl) ?_
            refine lv_icmp_ge (tgt := 78) hx hb dX5_takeBytes_29 (by decide) (fun c_29_43 => ?_) (fun c_29_43 => ?_)
            · exact absurd c_29_43 (by decide)
            · have t_29_43 := c_29_43
              try simp only [kb_eq0, kb_ne0, lg_cmp_lt, lg_cmp_le, lg_cmp_gt, lg_cmp_ge, lg_cmp_eq] at t_29_43
              try simp only [Int32.lt_iff_toInt_lt, Int32.le_iff_toInt_le, ← Int32.toInt_inj, Int64.lt_iff_toInt_lt, Int64.le_iff_toInt_le, ← Int64.toInt_inj, Int32.toInt_toInt64, Int32.reduceToInt, Int64.reduceToInt] at t_29_43
              refine lv_aload_n hx hb dX5_takeBytes_32 rfl (lv_at hl 1 rfl) ?_
              refine va_get (D := D) (ci := 5) (v := .int 1) (C := RX5) (T := TX5) (N := 7) hx hb hts iX5_takeBytes_X5 hown hK hP 0 rfl rfl 1 (by decide) (hts (.fieldLink RX5 19 "TapeCalculator$Text" "length" "I") (List.mem_of_getElem? (i := 1) rfl)) (fun _ h9 => h9) rfl dX5_takeBytes_33 ?_
              refine lv_aload_n hx hb dX5_takeBytes_36 rfl (lv_at hl 1 rfl) ?_
              refine va_get (D := D) (ci := 5) (v := .ref bX) (C := RX5) (T := TX5) (N := 7) hx hb hts iX5_takeBytes_X5 hown hK hP 0 rfl rfl 0 (by decide) (hts (.fieldLink RX5 9 "TapeCalculator$Text" "bytes" "[B") (List.mem_of_getElem? (i := 2) rfl)) (fun _ h9 => h9) rfl dX5_takeBytes_37 ?_
              refine va_alen hx hb hK hP 1 2 rfl rfl (v := 2000) rfl dX5_takeBytes_40 ?_
              refine lv_icmp_ge (tgt := 78) hx hb dX5_takeBytes_41 (by decide) (fun c_41_44 => ?_) (fun c_41_44 => ?_)
              · exact absurd c_41_44 (by decide)
              · have t_41_44 := c_41_44
                try simp only [kb_eq0, kb_ne0, lg_cmp_lt, lg_cmp_le, lg_cmp_gt, lg_cmp_ge, lg_cmp_eq] at t_41_44
                try simp only [Int32.lt_iff_toInt_lt, Int32.le_iff_toInt_le, ← Int32.toInt_inj, Int64.lt_iff_toInt_lt, Int64.le_iff_toInt_le, ← Int64.toInt_inj, Int32.toInt_toInt64, Int32.reduceToInt, Int64.reduceToInt] at t_41_44
                refine lv_aload_n hx hb dX5_takeBytes_44 rfl (lv_at hl 1 rfl) ?_
                refine va_get (D := D) (ci := 5) (v := .ref bX) (C := RX5) (T := TX5) (N := 7) hx hb hts iX5_takeBytes_X5 hown hK hP 0 rfl rfl 0 (by decide) (hts (.fieldLink RX5 9 "TapeCalculator$Text" "bytes" "[B") (List.mem_of_getElem? (i := 2) rfl)) (fun _ h9 => h9) rfl dX5_takeBytes_45 ?_
                refine lv_aload_n hx hb dX5_takeBytes_48 rfl (lv_at hl 1 rfl) ?_
                refine va_get (D := D) (ci := 5) (v := .int 1) (C := RX5) (T := TX5) (N := 7) hx hb hts iX5_takeBytes_X5 hown hK hP 0 rfl rfl 1 (by decide) (hts (.fieldLink RX5 19 "TapeCalculator$Text" "length" "I") (List.mem_of_getElem? (i := 1) rfl)) (fun _ h9 => h9) rfl dX5_takeBytes_49 ?_
                refine lv_lload_n hx hb dX5_takeBytes_52 rfl (lv_at hl 2 rfl) ?_
                refine lv_bipush (v := 8) hx hb dX5_takeBytes_53 (by decide) ?_
                refine lv_iload hx hb dX5_takeBytes_55 (lv_at hl 0 rfl) ?_
                refine lv_imul hx hb dX5_takeBytes_57 ?_
                refine lv_topi (fun x_46 ex_46 => ?_)
                obtain rfl : x_46 = 8 := ex_46.trans (by decide)
                refine lv_lshr hx hb dX5_takeBytes_58 rfl ?_
                refine lv_l2i hx hb dX5_takeBytes_59 rfl ?_
                refine lv_i2b hx hb dX5_takeBytes_60 rfl ?_
                refine va_bast hx hb hK hP hD hS 1 2 rfl rfl (vp_in_iff.mpr (by decide)) dX5_takeBytes_61 (fun H locs hP hD hS => ?_)
                have hP : va_P D vwCl [(aX, .inr (5, [.ref bX, .int 1, .int (-1), .int 0, .int 0, .int 0, .long 0])), (bX, .inl (cB, 2000, .inl (upd (upd (fun _ => 0) (0 : Int32).toNatClampNeg (vp_nar .byte (v >>> ((0 : Int32).toInt64 &&& 63)).toInt32.toInt8.toInt32)) (1 : Int32).toNatClampNeg (vp_nar .byte (v >>> ((8 : Int32).toInt64 &&& 63)).toInt32.toInt8.toInt32))))] H := hP
                have hD : va_D A [(aX, .inr (5, [.ref bX, .int 1, .int (-1), .int 0, .int 0, .int 0, .long 0])), (bX, .inl (cB, 2000, .inl (upd (upd (fun _ => 0) (0 : Int32).toNatClampNeg (vp_nar .byte (v >>> ((0 : Int32).toInt64 &&& 63)).toInt32.toInt8.toInt32)) (1 : Int32).toNatClampNeg (vp_nar .byte (v >>> ((8 : Int32).toInt64 &&& 63)).toInt32.toInt8.toInt32))))] := hD
                refine lv_aload_n hx hb dX5_takeBytes_62 rfl (lv_at hl 1 rfl) ?_
                refine lv_dup hx hb dX5_takeBytes_63 rfl ?_
                refine va_get (D := D) (ci := 5) (v := .int 1) (C := RX5) (T := TX5) (N := 7) hx hb hts iX5_takeBytes_X5 hown hK hP 0 rfl rfl 1 (by decide) (hts (.fieldLink RX5 19 "TapeCalculator$Text" "length" "I") (List.mem_of_getElem? (i := 1) rfl)) (fun _ h9 => h9) rfl dX5_takeBytes_64 ?_
                refine lv_iconst (v := 1) hx hb dX5_takeBytes_67 (by decide) ?_
                refine lv_iadd hx hb dX5_takeBytes_68 ?_
                refine lv_topi (fun x_47 ex_47 => ?_)
                obtain rfl : x_47 = 2 := ex_47.trans (by decide)
                refine va_put (D := D) (ci := 5) (v := .int 2) (ty := .int) (C := RX5) (T := TX5) (N := 7) hx hb hts iX5_takeBytes_X5 tyX5 tyX5_ok nmX5 hown hK hP hD hS 0 rfl rfl 1 (by decide) (hts (.fieldLink RX5 19 "TapeCalculator$Text" "length" "I") (List.mem_of_getElem? (i := 1) rfl)) (fun _ h9 => h9) rfl (by decide +kernel) rfl rfl (Nat.le_of_ble_eq_true rfl) dX5_takeBytes_69 (fun H locs hP hD hS => ?_)
                have hP : va_P D vwCl [(aX, .inr (5, [.ref bX, .int 2, .int (-1), .int 0, .int 0, .int 0, .long 0])), (bX, .inl (cB, 2000, .inl (upd (upd (fun _ => 0) (0 : Int32).toNatClampNeg (vp_nar .byte (v >>> ((0 : Int32).toInt64 &&& 63)).toInt32.toInt8.toInt32)) (1 : Int32).toNatClampNeg (vp_nar .byte (v >>> ((8 : Int32).toInt64 &&& 63)).toInt32.toInt8.toInt32))))] H := hP
                have hD : va_D A [(aX, .inr (5, [.ref bX, .int 2, .int (-1), .int 0, .int 0, .int 0, .long 0])), (bX, .inl (cB, 2000, .inl (upd (upd (fun _ => 0) (0 : Int32).toNatClampNeg (vp_nar .byte (v >>> ((0 : Int32).toInt64 &&& 63)).toInt32.toInt8.toInt32)) (1 : Int32).toNatClampNeg (vp_nar .byte (v >>> ((8 : Int32).toInt64 &&& 63)).toInt32.toInt8.toInt32))))] := hD
                refine lv_iinc (v := 2) (lv' := [(4, .int 2), (0, .ref aX), (1, .long v), (3, .int 4)]) hx hb dX5_takeBytes_72 hl (k := 0) rfl (by decide) (by decide) rfl (fun ls hl => ?_)
                refine lv_goto (tgt := 26) hx hb dX5_takeBytes_75 (by decide) ?_
                refine lv_iload hx hb dX5_takeBytes_26 (lv_at hl 0 rfl) ?_
                refine lv_iload_n hx hb dX5_takeBytes_28 rfl (lv_at hl 3 rfl) ?_
                refine lv_icmp_ge (tgt := 78) hx hb dX5_takeBytes_29 (by decide) (fun c_29_47 => ?_) (fun c_29_47 => ?_)
                · exact absurd c_29_47 (by decide)
                · have t_29_47 := c_29_47
                  try simp only [kb_eq0, kb_ne0, lg_cmp_lt, lg_cmp_le, lg_cmp_gt, lg_cmp_ge, lg_cmp_eq] at t_29_47
                  try simp only [Int32.lt_iff_toInt_lt, Int32.le_iff_toInt_le, ← Int32.toInt_inj, Int64.lt_iff_toInt_lt, Int64.le_iff_toInt_le, ← Int64.toInt_inj, Int32.toInt_toInt64, Int32.reduceToInt, Int64.reduceToInt] at t_29_47
                  refine lv_aload_n hx hb dX5_takeBytes_32 rfl (lv_at hl 1 rfl) ?_
                  refine va_get (D := D) (ci := 5) (v := .int 2) (C := RX5) (T := TX5) (N := 7) hx hb hts iX5_takeBytes_X5 hown hK hP 0 rfl rfl 1 (by decide) (hts (.fieldLink RX5 19 "TapeCalculator$Text" "length" "I") (List.mem_of_getElem? (i := 1) rfl)) (fun _ h9 => h9) rfl dX5_takeBytes_33 ?_
                  refine lv_aload_n hx hb dX5_takeBytes_36 rfl (lv_at hl 1 rfl) ?_
                  refine va_get (D := D) (ci := 5) (v := .ref bX) (C := RX5) (T := TX5) (N := 7) hx hb hts iX5_takeBytes_X5 hown hK hP 0 rfl rfl 0 (by decide) (hts (.fieldLink RX5 9 "TapeCalculator$Text" "bytes" "[B") (List.mem_of_getElem? (i := 2) rfl)) (fun _ h9 => h9) rfl dX5_takeBytes_37 ?_
                  refine va_alen hx hb hK hP 1 2 rfl rfl (v := 2000) rfl dX5_takeBytes_40 ?_
                  refine lv_icmp_ge (tgt := 78) hx hb dX5_takeBytes_41 (by decide) (fun c_41_48 => ?_) (fun c_41_48 => ?_)
                  · exact absurd c_41_48 (by decide)
                  · have t_41_48 := c_41_48
                    try simp only [kb_eq0, kb_ne0, lg_cmp_lt, lg_cmp_le, lg_cmp_gt, lg_cmp_ge, lg_cmp_eq] at t_41_48
                    try simp only [Int32.lt_iff_toInt_lt, Int32.le_iff_toInt_le, ← Int32.toInt_inj, Int64.lt_iff_toInt_lt, Int64.le_iff_toInt_le, ← Int64.toInt_inj, Int32.toInt_toInt64, Int32.reduceToInt, Int64.reduceToInt] at t_41_48
                    refine lv_aload_n hx hb dX5_takeBytes_44 rfl (lv_at hl 1 rfl) ?_
                    refine va_get (D := D) (ci := 5) (v := .ref bX) (C := RX5) (T := TX5) (N := 7) hx hb hts iX5_takeBytes_X5 hown hK hP 0 rfl rfl 0 (by decide) (hts (.fieldLink RX5 9 "TapeCalculator$Text" "bytes" "[B") (List.mem_of_getElem? (i := 2) rfl)) (fun _ h9 => h9) rfl dX5_takeBytes_45 ?_
                    refine lv_aload_n hx hb dX5_takeBytes_48 rfl (lv_at hl 1 rfl) ?_
                    refine va_get (D := D) (ci := 5) (v := .int 2) (C := RX5) (T := TX5) (N := 7) hx hb hts iX5_takeBytes_X5 hown hK hP 0 rfl rfl 1 (by decide) (hts (.fieldLink RX5 19 "TapeCalculator$Text" "length" "I") (List.mem_of_getElem? (i := 1) rfl)) (fun _ h9 => h9) rfl dX5_takeBytes_49 ?_
                    refine lv_lload_n hx hb dX5_takeBytes_52 rfl (lv_at hl 2 rfl) ?_
                    refine lv_bipush (v := 8) hx hb dX5_takeBytes_53 (by decide) ?_
                    refine lv_iload hx hb dX5_takeBytes_55 (lv_at hl 0 rfl) ?_
                    refine lv_imul hx hb dX5_takeBytes_57 ?_
                    refine lv_topi (fun x_50 ex_50 => ?_)
                    obtain rfl : x_50 = 16 := ex_50.trans (by decide)
                    refine lv_lshr hx hb dX5_takeBytes_58 rfl ?_
                    refine lv_l2i hx hb dX5_takeBytes_59 rfl ?_
                    refine lv_i2b hx hb dX5_takeBytes_60 rfl ?_
                    refine va_bast hx hb hK hP hD hS 1 2 rfl rfl (vp_in_iff.mpr (by decide)) dX5_takeBytes_61 (fun H locs hP hD hS => ?_)
                    have hP : va_P D vwCl [(aX, .inr (5, [.ref bX, .int 2, .int (-1), .int 0, .int 0, .int 0, .long 0])), (bX, .inl (cB, 2000, .inl (upd (upd (upd (fun _ => 0) (0 : Int32).toNatClampNeg (vp_nar .byte (v >>> ((0 : Int32).toInt64 &&& 63)).toInt32.toInt8.toInt32)) (1 : Int32).toNatClampNeg (vp_nar .byte (v >>> ((8 : Int32).toInt64 &&& 63)).toInt32.toInt8.toInt32)) (2 : Int32).toNatClampNeg (vp_nar .byte (v >>> ((16 : Int32).toInt64 &&& 63)).toInt32.toInt8.toInt32))))] H := hP
                    have hD : va_D A [(aX, .inr (5, [.ref bX, .int 2, .int (-1), .int 0, .int 0, .int 0, .long 0])), (bX, .inl (cB, 2000, .inl (upd (upd (upd (fun _ => 0) (0 : Int32).toNatClampNeg (vp_nar .byte (v >>> ((0 : Int32).toInt64 &&& 63)).toInt32.toInt8.toInt32)) (1 : Int32).toNatClampNeg (vp_nar .byte (v >>> ((8 : Int32).toInt64 &&& 63)).toInt32.toInt8.toInt32)) (2 : Int32).toNatClampNeg (vp_nar .byte (v >>> ((16 : Int32).toInt64 &&& 63)).toInt32.toInt8.toInt32))))] := hD
                    refine lv_aload_n hx hb dX5_takeBytes_62 rfl (lv_at hl 1 rfl) ?_
                    refine lv_dup hx hb dX5_takeBytes_63 rfl ?_
                    refine va_get (D := D) (ci := 5) (v := .int 2) (C := RX5) (T := TX5) (N := 7) hx hb hts iX5_takeBytes_X5 hown hK hP 0 rfl rfl 1 (by decide) (hts (.fieldLink RX5 19 "TapeCalculator$Text" "length" "I") (List.mem_of_getElem? (i := 1) rfl)) (fun _ h9 => h9) rfl dX5_takeBytes_64 ?_
                    refine lv_iconst (v := 1) hx hb dX5_takeBytes_67 (by decide) ?_
                    refine lv_iadd hx hb dX5_takeBytes_68 ?_
                    refine lv_topi (fun x_51 ex_51 => ?_)
                    obtain rfl : x_51 = 3 := ex_51.trans (by decide)
                    refine va_put (D := D) (ci := 5) (v := .int 3) (ty := .int) (C := RX5) (T := TX5) (N := 7) hx hb hts iX5_takeBytes_X5 tyX5 tyX5_ok nmX5 hown hK hP hD hS 0 rfl rfl 1 (by decide) (hts (.fieldLink RX5 19 "TapeCalculator$Text" "length" "I") (List.mem_of_getElem? (i := 1) rfl)) (fun _ h9 => h9) rfl (by decide +kernel) rfl rfl (Nat.le_of_ble_eq_true rfl) dX5_takeBytes_69 (fun H locs hP hD hS => ?_)
                    have hP : va_P D vwCl [(aX, .inr (5, [.ref bX, .int 3, .int (-1), .int 0, .int 0, .int 0, .long 0])), (bX, .inl (cB, 2000, .inl (upd (upd (upd (fun _ => 0) (0 : Int32).toNatClampNeg (vp_nar .byte (v >>> ((0 : Int32).toInt64 &&& 63)).toInt32.toInt8.toInt32)) (1 : Int32).toNatClampNeg (vp_nar .byte (v >>> ((8 : Int32).toInt64 &&& 63)).toInt32.toInt8.toInt32)) (2 : Int32).toNatClampNeg (vp_nar .byte (v >>> ((16 : Int32).toInt64 &&& 63)).toInt32.toInt8.toInt32))))] H := hP
                    have hD : va_D A [(aX, .inr (5, [.ref bX, .int 3, .int (-1), .int 0, .int 0, .int 0, .long 0])), (bX, .inl (cB, 2000, .inl (upd (upd (upd (fun _ => 0) (0 : Int32).toNatClampNeg (vp_nar .byte (v >>> ((0 : Int32).toInt64 &&& 63)).toInt32.toInt8.toInt32)) (1 : Int32).toNatClampNeg (vp_nar .byte (v >>> ((8 : Int32).toInt64 &&& 63)).toInt32.toInt8.toInt32)) (2 : Int32).toNatClampNeg (vp_nar .byte (v >>> ((16 : Int32).toInt64 &&& 63)).toInt32.toInt8.toInt32))))] := hD
                    refine lv_iinc (v := 3) (lv' := [(4, .int 3), (0, .ref aX), (1, .long v), (3, .int 4)]) hx hb dX5_takeBytes_72 hl (k := 0) rfl (by decide) (by decide) rfl (fun ls hl => ?_)
                    refine lv_goto (tgt := 26) hx hb dX5_takeBytes_75 (by decide) ?_
                    refine lv_iload hx hb dX5_takeBytes_26 (lv_at hl 0 rfl) ?_
                    refine lv_iload_n hx hb dX5_takeBytes_28 rfl (lv_at hl 3 rfl) ?_
                    refine lv_icmp_ge (tgt := 78) hx hb dX5_takeBytes_29 (by decide) (fun c_29_51 => ?_) (fun c_29_51 => ?_)
                    · exact absurd c_29_51 (by decide)
                    · have t_29_51 := c_29_51
                      try simp only [kb_eq0, kb_ne0, lg_cmp_lt, lg_cmp_le, lg_cmp_gt, lg_cmp_ge, lg_cmp_eq] at t_29_51
                      try simp only [Int32.lt_iff_toInt_lt, Int32.le_iff_toInt_le, ← Int32.toInt_inj, Int64.lt_iff_toInt_lt, Int64.le_iff_toInt_le, ← Int64.toInt_inj, Int32.toInt_toInt64, Int32.reduceToInt, Int64.reduceToInt] at t_29_51
                      refine lv_aload_n hx hb dX5_takeBytes_32 rfl (lv_at hl 1 rfl) ?_
                      refine va_get (D := D) (ci := 5) (v := .int 3) (C := RX5) (T := TX5) (N := 7) hx hb hts iX5_takeBytes_X5 hown hK hP 0 rfl rfl 1 (by decide) (hts (.fieldLink RX5 19 "TapeCalculator$Text" "length" "I") (List.mem_of_getElem? (i := 1) rfl)) (fun _ h9 => h9) rfl dX5_takeBytes_33 ?_
                      refine lv_aload_n hx hb dX5_takeBytes_36 rfl (lv_at hl 1 rfl) ?_
                      refine va_get (D := D) (ci := 5) (v := .ref bX) (C := RX5) (T := TX5) (N := 7) hx hb hts iX5_takeBytes_X5 hown hK hP 0 rfl rfl 0 (by decide) (hts (.fieldLink RX5 9 "TapeCalculator$Text" "bytes" "[B") (List.mem_of_getElem? (i := 2) rfl)) (fun _ h9 => h9) rfl dX5_takeBytes_37 ?_
                      refine va_alen hx hb hK hP 1 2 rfl rfl (v := 2000) rfl dX5_takeBytes_40 ?_
                      refine lv_icmp_ge (tgt := 78) hx hb dX5_takeBytes_41 (by decide) (fun c_41_52 => ?_) (fun c_41_52 => ?_)
                      · exact absurd c_41_52 (by decide)
                      · have t_41_52 := c_41_52
                        try simp only [kb_eq0, kb_ne0, lg_cmp_lt, lg_cmp_le, lg_cmp_gt, lg_cmp_ge, lg_cmp_eq] at t_41_52
                        try simp only [Int32.lt_iff_toInt_lt, Int32.le_iff_toInt_le, ← Int32.toInt_inj, Int64.lt_iff_toInt_lt, Int64.le_iff_toInt_le, ← Int64.toInt_inj, Int32.toInt_toInt64, Int32.reduceToInt, Int64.reduceToInt] at t_41_52
                        refine lv_aload_n hx hb dX5_takeBytes_44 rfl (lv_at hl 1 rfl) ?_
                        refine va_get (D := D) (ci := 5) (v := .ref bX) (C := RX5) (T := TX5) (N := 7) hx hb hts iX5_takeBytes_X5 hown hK hP 0 rfl rfl 0 (by decide) (hts (.fieldLink RX5 9 "TapeCalculator$Text" "bytes" "[B") (List.mem_of_getElem? (i := 2) rfl)) (fun _ h9 => h9) rfl dX5_takeBytes_45 ?_
                        refine lv_aload_n hx hb dX5_takeBytes_48 rfl (lv_at hl 1 rfl) ?_
                        refine va_get (D := D) (ci := 5) (v := .int 3) (C := RX5) (T := TX5) (N := 7) hx hb hts iX5_takeBytes_X5 hown hK hP 0 rfl rfl 1 (by decide) (hts (.fieldLink RX5 19 "TapeCalculator$Text" "length" "I") (List.mem_of_getElem? (i := 1) rfl)) (fun _ h9 => h9) rfl dX5_takeBytes_49 ?_
                        refine lv_lload_n hx hb dX5_takeBytes_52 rfl (lv_at hl 2 rfl) ?_
                        refine lv_bipush (v := 8) hx hb dX5_takeBytes_53 (by decide) ?_
                        refine lv_iload hx hb dX5_takeBytes_55 (lv_at hl 0 rfl) ?_
                        refine lv_imul hx hb dX5_takeBytes_57 ?_
                        refine lv_topi (fun x_54 ex_54 => ?_)
                        obtain rfl : x_54 = 24 := ex_54.trans (by decide)
                        refine lv_lshr hx hb dX5_takeBytes_58 rfl ?_
                        refine lv_l2i hx hb dX5_takeBytes_59 rfl ?_
                        refine lv_i2b hx hb dX5_takeBytes_60 rfl ?_
                        refine va_bast hx hb hK hP hD hS 1 2 rfl rfl (vp_in_iff.mpr (by decide)) dX5_takeBytes_61 (fun H locs hP hD hS => ?_)
                        have hP : va_P D vwCl [(aX, .inr (5, [.ref bX, .int 3, .int (-1), .int 0, .int 0, .int 0, .long 0])), (bX, .inl (cB, 2000, .inl (upd (upd (upd (upd (fun _ => 0) (0 : Int32).toNatClampNeg (vp_nar .byte (v >>> ((0 : Int32).toInt64 &&& 63)).toInt32.toInt8.toInt32)) (1 : Int32).toNatClampNeg (vp_nar .byte (v >>> ((8 : Int32).toInt64 &&& 63)).toInt32.toInt8.toInt32)) (2 : Int32).toNatClampNeg (vp_nar .byte (v >>> ((16 : Int32).toInt64 &&& 63)).toInt32.toInt8.toInt32)) (3 : Int32).toNatClampNeg (vp_nar .byte (v >>> ((24 : Int32).toInt64 &&& 63)).toInt32.toInt8.toInt32))))] H := hP
                        have hD : va_D A [(aX, .inr (5, [.ref bX, .int 3, .int (-1), .int 0, .int 0, .int 0, .long 0])), (bX, .inl (cB, 2000, .inl (upd (upd (upd (upd (fun _ => 0) (0 : Int32).toNatClampNeg (vp_nar .byte (v >>> ((0 : Int32).toInt64 &&& 63)).toInt32.toInt8.toInt32)) (1 : Int32).toNatClampNeg (vp_nar .byte (v >>> ((8 : Int32).toInt64 &&& 63)).toInt32.toInt8.toInt32)) (2 : Int32).toNatClampNeg (vp_nar .byte (v >>> ((16 : Int32).toInt64 &&& 63)).toInt32.toInt8.toInt32)) (3 : Int32).toNatClampNeg (vp_nar .byte (v >>> ((24 : Int32).toInt64 &&& 63)).toInt32.toInt8.toInt32))))] := hD
                        refine lv_aload_n hx hb dX5_takeBytes_62 rfl (lv_at hl 1 rfl) ?_
                        refine lv_dup hx hb dX5_takeBytes_63 rfl ?_
                        refine va_get (D := D) (ci := 5) (v := .int 3) (C := RX5) (T := TX5) (N := 7) hx hb hts iX5_takeBytes_X5 hown hK hP 0 rfl rfl 1 (by decide) (hts (.fieldLink RX5 19 "TapeCalculator$Text" "length" "I") (List.mem_of_getElem? (i := 1) rfl)) (fun _ h9 => h9) rfl dX5_takeBytes_64 ?_
                        refine lv_iconst (v := 1) hx hb dX5_takeBytes_67 (by decide) ?_
                        refine lv_iadd hx hb dX5_takeBytes_68 ?_
                        refine lv_topi (fun x_55 ex_55 => ?_)
                        obtain rfl : x_55 = 4 := ex_55.trans (by decide)
                        refine va_put (D := D) (ci := 5) (v := .int 4) (ty := .int) (C := RX5) (T := TX5) (N := 7) hx hb hts iX5_takeBytes_X5 tyX5 tyX5_ok nmX5 hown hK hP hD hS 0 rfl rfl 1 (by decide) (hts (.fieldLink RX5 19 "TapeCalculator$Text" "length" "I") (List.mem_of_getElem? (i := 1) rfl)) (fun _ h9 => h9) rfl (by decide +kernel) rfl rfl (Nat.le_of_ble_eq_true rfl) dX5_takeBytes_69 (fun H locs hP hD hS => ?_)
                        have hP : va_P D vwCl [(aX, .inr (5, [.ref bX, .int 4, .int (-1), .int 0, .int 0, .int 0, .long 0])), (bX, .inl (cB, 2000, .inl (upd (upd (upd (upd (fun _ => 0) (0 : Int32).toNatClampNeg (vp_nar .byte (v >>> ((0 : Int32).toInt64 &&& 63)).toInt32.toInt8.toInt32)) (1 : Int32).toNatClampNeg (vp_nar .byte (v >>> ((8 : Int32).toInt64 &&& 63)).toInt32.toInt8.toInt32)) (2 : Int32).toNatClampNeg (vp_nar .byte (v >>> ((16 : Int32).toInt64 &&& 63)).toInt32.toInt8.toInt32)) (3 : Int32).toNatClampNeg (vp_nar .byte (v >>> ((24 : Int32).toInt64 &&& 63)).toInt32.toInt8.toInt32))))] H := hP
                        have hD : va_D A [(aX, .inr (5, [.ref bX, .int 4, .int (-1), .int 0, .int 0, .int 0, .long 0])), (bX, .inl (cB, 2000, .inl (upd (upd (upd (upd (fun _ => 0) (0 : Int32).toNatClampNeg (vp_nar .byte (v >>> ((0 : Int32).toInt64 &&& 63)).toInt32.toInt8.toInt32)) (1 : Int32).toNatClampNeg (vp_nar .byte (v >>> ((8 : Int32).toInt64 &&& 63)).toInt32.toInt8.toInt32)) (2 : Int32).toNatClampNeg (vp_nar .byte (v >>> ((16 : Int32).toInt64 &&& 63)).toInt32.toInt8.toInt32)) (3 : Int32).toNatClampNeg (vp_nar .byte (v >>> ((24 : Int32).toInt64 &&& 63)).toInt32.toInt8.toInt32))))] := hD
                        refine lv_iinc (v := 4) (lv' := [(4, .int 4), (0, .ref aX), (1, .long v), (3, .int 4)]) hx hb dX5_takeBytes_72 hl (k := 0) rfl (by decide) (by decide) rfl (fun ls hl => ?_)
                        refine lv_goto (tgt := 26) hx hb dX5_takeBytes_75 (by decide) ?_
                        refine lv_iload hx hb dX5_takeBytes_26 (lv_at hl 0 rfl) ?_
                        refine lv_iload_n hx hb dX5_takeBytes_28 rfl (lv_at hl 3 rfl) ?_
                        refine lv_icmp_ge (tgt := 78) hx hb dX5_takeBytes_29 (by decide) (fun c_29_55 => ?_) (fun c_29_55 => ?_)
                        · have t_29_55 := c_29_55
                          try simp only [kb_eq0, kb_ne0, lg_cmp_lt, lg_cmp_le, lg_cmp_gt, lg_cmp_ge, lg_cmp_eq] at t_29_55
                          try simp only [Int32.lt_iff_toInt_lt, Int32.le_iff_toInt_le, ← Int32.toInt_inj, Int64.lt_iff_toInt_lt, Int64.le_iff_toInt_le, ← Int64.toInt_inj, Int32.toInt_toInt64, Int32.reduceToInt, Int64.reduceToInt] at t_29_55
                          refine lv_iconst (v := 1) hx hb dX5_takeBytes_78 (by decide) ?_
                          refine kIret (u := (upd (upd (upd (upd (fun _ => 0) (0 : Int32).toNatClampNeg (vp_nar .byte (v >>> ((0 : Int32).toInt64 &&& 63)).toInt32.toInt8.toInt32)) (1 : Int32).toNatClampNeg (vp_nar .byte (v >>> ((8 : Int32).toInt64 &&& 63)).toInt32.toInt8.toInt32)) (2 : Int32).toNatClampNeg (vp_nar .byte (v >>> ((16 : Int32).toInt64 &&& 63)).toInt32.toInt8.toInt32)) (3 : Int32).toNatClampNeg (vp_nar .byte (v >>> ((24 : Int32).toInt64 &&& 63)).toInt32.toInt8.toInt32))) hx hb hr rfl hlocks hS dX5_takeBytes_79 ?_ (hP.sub [0, 1] rfl) (hD.sub [0, 1] (by decide) rfl)
                          exact rfl
                        · exact absurd (by decide) c_29_55
      · exact absurd (by decide) c_18_38
  · refine lv_aload_n hx hb dX5_takeBytes_0 rfl (lv_at hl 0 rfl) ?_
    refine va_get (D := D) (ci := 5) (v := .int 0) (C := RX5) (T := TX5) (N := 7) hx hb hts iX5_takeBytes_X5 hown hK hP 0 rfl rfl 1 (by decide) (hts (.fieldLink RX5 19 "TapeCalculator$Text" "length" "I") (List.mem_of_getElem? (i := 1) rfl)) (fun _ h9 => h9) rfl dX5_takeBytes_1 ?_
    refine lv_if_lt (tgt := 21) hx hb dX5_takeBytes_4 (by decide) (fun c_4_56 => ?_) (fun c_4_56 => ?_)
    · exact absurd c_4_56 (by decide)
    · have t_4_56 := c_4_56
      try simp only [kb_eq0, kb_ne0, lg_cmp_lt, lg_cmp_le, lg_cmp_gt, lg_cmp_ge, lg_cmp_eq] at t_4_56
      try simp only [Int32.lt_iff_toInt_lt, Int32.le_iff_toInt_le, ← Int32.toInt_inj, Int64.lt_iff_toInt_lt, Int64.le_iff_toInt_le, ← Int64.toInt_inj, Int32.toInt_toInt64, Int32.reduceToInt, Int64.reduceToInt] at t_4_56
      refine lv_aload_n hx hb dX5_takeBytes_7 rfl (lv_at hl 0 rfl) ?_
      refine va_get (D := D) (ci := 5) (v := .int 0) (C := RX5) (T := TX5) (N := 7) hx hb hts iX5_takeBytes_X5 hown hK hP 0 rfl rfl 1 (by decide) (hts (.fieldLink RX5 19 "TapeCalculator$Text" "length" "I") (List.mem_of_getElem? (i := 1) rfl)) (fun _ h9 => h9) rfl dX5_takeBytes_8 ?_
      refine lv_iload_n hx hb dX5_takeBytes_11 rfl (lv_at hl 2 rfl) ?_
      refine lv_iadd hx hb dX5_takeBytes_12 ?_
      refine lv_topi (fun x_58 ex_58 => ?_)
      obtain rfl : x_58 = 5 := ex_58.trans (by decide)
      refine lv_aload_n hx hb dX5_takeBytes_13 rfl (lv_at hl 0 rfl) ?_
      refine va_get (D := D) (ci := 5) (v := .ref bX) (C := RX5) (T := TX5) (N := 7) hx hb hts iX5_takeBytes_X5 hown hK hP 0 rfl rfl 0 (by decide) (hts (.fieldLink RX5 9 "TapeCalculator$Text" "bytes" "[B") (List.mem_of_getElem? (i := 2) rfl)) (fun _ h9 => h9) rfl dX5_takeBytes_14 ?_
      refine va_alen hx hb hK hP 1 2 rfl rfl (v := 2000) rfl dX5_takeBytes_17 ?_
      refine lv_icmp_le (tgt := 23) hx hb dX5_takeBytes_18 (by decide) (fun c_18_58 => ?_) (fun c_18_58 => ?_)
      · have t_18_58 := c_18_58
        try simp only [kb_eq0, kb_ne0, lg_cmp_lt, lg_cmp_le, lg_cmp_gt, lg_cmp_ge, lg_cmp_eq] at t_18_58
        try simp only [Int32.lt_iff_toInt_lt, Int32.le_iff_toInt_le, ← Int32.toInt_inj, Int64.lt_iff_toInt_lt, Int64.le_iff_toInt_le, ← Int64.toInt_inj, Int32.toInt_toInt64, Int32.reduceToInt, Int64.reduceToInt] at t_18_58
        refine lv_iconst (v := 0) hx hb dX5_takeBytes_23 (by decide) ?_
        refine lv_istore (lv' := [(4, .int 0), (0, .ref aX), (1, .long v), (3, .int 5)]) hx hb dX5_takeBytes_24 hl (by decide) rfl (fun ls hl => ?_)
        refine lv_iload hx hb dX5_takeBytes_26 (lv_at hl 0 rfl) ?_
        refine lv_iload_n hx hb dX5_takeBytes_28 rfl (lv_at hl 3 rfl) ?_
        refine lv_icmp_ge (tgt := 78) hx hb dX5_takeBytes_29 (by decide) (fun c_29_59 => ?_) (fun c_29_59 => ?_)
        · exact absurd c_29_59 (by decide)
        · have t_29_59 := c_29_59
          try simp only [kb_eq0, kb_ne0, lg_cmp_lt, lg_cmp_le, lg_cmp_gt, lg_cmp_ge, lg_cmp_eq] at t_29_59
          try simp only [Int32.lt_iff_toInt_lt, Int32.le_iff_toInt_le, ← Int32.toInt_inj, Int64.lt_iff_toInt_lt, Int64.le_iff_toInt_le, ← Int64.toInt_inj, Int32.toInt_toInt64, Int32.reduceToInt, Int64.reduceToInt] at t_29_59
          refine lv_aload_n hx hb dX5_takeBytes_32 rfl (lv_at hl 1 rfl) ?_
          refine va_get (D := D) (ci := 5) (v := .int 0) (C := RX5) (T := TX5) (N := 7) hx hb hts iX5_takeBytes_X5 hown hK hP 0 rfl rfl 1 (by decide) (hts (.fieldLink RX5 19 "TapeCalculator$Text" "length" "I") (List.mem_of_getElem? (i := 1) rfl)) (fun _ h9 => h9) rfl dX5_takeBytes_33 ?_
          refine lv_aload_n hx hb dX5_takeBytes_36 rfl (lv_at hl 1 rfl) ?_
          refine va_get (D := D) (ci := 5) (v := .ref bX) (C := RX5) (T := TX5) (N := 7) hx hb hts iX5_takeBytes_X5 hown hK hP 0 rfl rfl 0 (by decide) (hts (.fieldLink RX5 9 "TapeCalculator$Text" "bytes" "[B") (List.mem_of_getElem? (i := 2) rfl)) (fun _ h9 => h9) rfl dX5_takeBytes_37 ?_
          refine va_alen hx hb hK hP 1 2 rfl rfl (v := 2000) rfl dX5_takeBytes_40 ?_
          refine lv_icmp_ge (tgt := 78) hx hb dX5_takeBytes_41 (by decide) (fun c_41_60 => ?_) (fun c_41_60 => ?_)
          · exact absurd c_41_60 (by decide)
          · have t_41_60 := c_41_60
            try simp only [kb_eq0, kb_ne0, lg_cmp_lt, lg_cmp_le, lg_cmp_gt, lg_cmp_ge, lg_cmp_eq] at t_41_60
            try simp only [Int32.lt_iff_toInt_lt, Int32.le_iff_toInt_le, ← Int32.toInt_inj, Int64.lt_iff_toInt_lt, Int64.le_iff_toInt_le, ← Int64.toInt_inj, Int32.toInt_toInt64, Int32.reduceToInt, Int64.reduceToInt] at t_41_60
            refine lv_aload_n hx hb dX5_takeBytes_44 rfl (lv_at hl 1 rfl) ?_
            refine va_get (D := D) (ci := 5) (v := .ref bX) (C := RX5) (T := TX5) (N := 7) hx hb hts iX5_takeBytes_X5 hown hK hP 0 rfl rfl 0 (by decide) (hts (.fieldLink RX5 9 "TapeCalculator$Text" "bytes" "[B") (List.mem_of_getElem? (i := 2) rfl)) (fun _ h9 => h9) rfl dX5_takeBytes_45 ?_
            refine lv_aload_n hx hb dX5_takeBytes_48 rfl (lv_at hl 1 rfl) ?_
            refine va_get (D := D) (ci := 5) (v := .int 0) (C := RX5) (T := TX5) (N := 7) hx hb hts iX5_takeBytes_X5 hown hK hP 0 rfl rfl 1 (by decide) (hts (.fieldLink RX5 19 "TapeCalculator$Text" "length" "I") (List.mem_of_getElem? (i := 1) rfl)) (fun _ h9 => h9) rfl dX5_takeBytes_49 ?_
            refine lv_lload_n hx hb dX5_takeBytes_52 rfl (lv_at hl 2 rfl) ?_
            refine lv_bipush (v := 8) hx hb dX5_takeBytes_53 (by decide) ?_
            refine lv_iload hx hb dX5_takeBytes_55 (lv_at hl 0 rfl) ?_
            refine lv_imul hx hb dX5_takeBytes_57 ?_
            refine lv_topi (fun x_62 ex_62 => ?_)
            obtain rfl : x_62 = 0 := ex_62.trans (by decide)
            refine lv_lshr hx hb dX5_takeBytes_58 rfl ?_
            refine lv_l2i hx hb dX5_takeBytes_59 rfl ?_
            refine lv_i2b hx hb dX5_takeBytes_60 rfl ?_
            refine va_bast hx hb hK hP hD hS 1 2 rfl rfl (vp_in_iff.mpr (by decide)) dX5_takeBytes_61 (fun H locs hP hD hS => ?_)
            have hP : va_P D vwCl [(aX, .inr (5, [.ref bX, .int 0, .int (-1), .int 0, .int 0, .int 0, .long 0])), (bX, .inl (cB, 2000, .inl (upd (fun _ => 0) (0 : Int32).toNatClampNeg (vp_nar .byte (v >>> ((0 : Int32).toInt64 &&& 63)).toInt32.toInt8.toInt32))))] H := hP
            have hD : va_D A [(aX, .inr (5, [.ref bX, .int 0, .int (-1), .int 0, .int 0, .int 0, .long 0])), (bX, .inl (cB, 2000, .inl (upd (fun _ => 0) (0 : Int32).toNatClampNeg (vp_nar .byte (v >>> ((0 : Int32).toInt64 &&& 63)).toInt32.toInt8.toInt32))))] := hD
            refine lv_aload_n hx hb dX5_takeBytes_62 rfl (lv_at hl 1 rfl) ?_
            refine lv_dup hx hb dX5_takeBytes_63 rfl ?_
            refine va_get (D := D) (ci := 5) (v := .int 0) (C := RX5) (T := TX5) (N := 7) hx hb hts iX5_takeBytes_X5 hown hK hP 0 rfl rfl 1 (by decide) (hts (.fieldLink RX5 19 "TapeCalculator$Text" "length" "I") (List.mem_of_getElem? (i := 1) rfl)) (fun _ h9 => h9) rfl dX5_takeBytes_64 ?_
            refine lv_iconst (v := 1) hx hb dX5_takeBytes_67 (by decide) ?_
            refine lv_iadd hx hb dX5_takeBytes_68 ?_
            refine lv_topi (fun x_63 ex_63 => ?_)
            obtain rfl : x_63 = 1 := ex_63.trans (by decide)
            refine va_put (D := D) (ci := 5) (v := .int 1) (ty := .int) (C := RX5) (T := TX5) (N := 7) hx hb hts iX5_takeBytes_X5 tyX5 tyX5_ok nmX5 hown hK hP hD hS 0 rfl rfl 1 (by decide) (hts (.fieldLink RX5 19 "TapeCalculator$Text" "length" "I") (List.mem_of_getElem? (i := 1) rfl)) (fun _ h9 => h9) rfl (by decide +kernel) rfl rfl (Nat.le_of_ble_eq_true rfl) dX5_takeBytes_69 (fun H locs hP hD hS => ?_)
            have hP : va_P D vwCl [(aX, .inr (5, [.ref bX, .int 1, .int (-1), .int 0, .int 0, .int 0, .long 0])), (bX, .inl (cB, 2000, .inl (upd (fun _ => 0) (0 : Int32).toNatClampNeg (vp_nar .byte (v >>> ((0 : Int32).toInt64 &&& 63)).toInt32.toInt8.toInt32))))] H := hP
            have hD : va_D A [(aX, .inr (5, [.ref bX, .int 1, .int (-1), .int 0, .int 0, .int 0, .long 0])), (bX, .inl (cB, 2000, .inl (upd (fun _ => 0) (0 : Int32).toNatClampNeg (vp_nar .byte (v >>> ((0 : Int32).toInt64 &&& 63)).toInt32.toInt8.toInt32))))] := hD
            refine lv_iinc (v := 1) (lv' := [(4, .int 1), (0, .ref aX), (1, .long v), (3, .int 5)]) hx hb dX5_takeBytes_72 hl (k := 0) rfl (by decide) (by decide) rfl (fun ls hl => ?_)
            refine lv_goto (tgt := 26) hx hb dX5_takeBytes_75 (by decide) ?_
            refine lv_iload hx hb dX5_takeBytes_26 (lv_at hl 0 rfl) ?_
            refine lv_iload_n hx hb dX5_takeBytes_28 rfl (lv_at hl 3 rfl) ?_
            refine lv_icmp_ge (tgt := 78) hx hb dX5_takeBytes_29 (by decide) (fun c_29_63 => ?_) (fun c_29_63 => ?_)
            · exact absurd c_29_63 (by decide)
            · have t_29_63 := c_29_63
              try simp only [kb_eq0, kb_ne0, lg_cmp_lt, lg_cmp_le, lg_cmp_gt, lg_cmp_ge, lg_cmp_eq] at t_29_63
              try simp only [Int32.lt_iff_toInt_lt, Int32.le_iff_toInt_le, ← Int32.toInt_inj, Int64.lt_iff_toInt_lt, Int64.le_iff_toInt_le, ← Int64.toInt_inj, Int32.toInt_toInt64, Int32.reduceToInt, Int64.reduceToInt] at t_29_63
              refine lv_aload_n hx hb dX5_takeBytes_32 rfl (lv_at hl 1 rfl) ?_
              refine va_get (D := D) (ci := 5) (v := .int 1) (C := RX5) (T := TX5) (N := 7) hx hb hts iX5_takeBytes_X5 hown hK hP 0 rfl rfl 1 (by decide) (hts (.fieldLink RX5 19 "TapeCalculator$Text" "length" "I") (List.mem_of_getElem? (i := 1) rfl)) (fun _ h9 => h9) rfl dX5_takeBytes_33 ?_
              refine lv_aload_n hx hb dX5_takeBytes_36 rfl (lv_at hl 1 rfl) ?_
              refine va_get (D := D) (ci := 5) (v := .ref bX) (C := RX5) (T := TX5) (N := 7) hx hb hts iX5_takeBytes_X5 hown hK hP 0 rfl rfl 0 (by decide) (hts (.fieldLink RX5 9 "TapeCalculator$Text" "bytes" "[B") (List.mem_of_getElem? (i := 2) rfl)) (fun _ h9 => h9) rfl dX5_takeBytes_37 ?_
              refine va_alen hx hb hK hP 1 2 rfl rfl (v := 2000) rfl dX5_takeBytes_40 ?_
              refine lv_icmp_ge (tgt := 78) hx hb dX5_takeBytes_41 (by decide) (fun c_41_64 => ?_) (fun c_41_64 => ?_)
              · exact absurd c_41_64 (by decide)
              · have t_41_64 := c_41_64
                try simp only [kb_eq0, kb_ne0, lg_cmp_lt, lg_cmp_le, lg_cmp_gt, lg_cmp_ge, lg_cmp_eq] at t_41_64
                try simp only [Int32.lt_iff_toInt_lt, Int32.le_iff_toInt_le, ← Int32.toInt_inj, Int64.lt_iff_toInt_lt, Int64.le_iff_toInt_le, ← Int64.toInt_inj, Int32.toInt_toInt64, Int32.reduceToInt, Int64.reduceToInt] at t_41_64
                refine lv_aload_n hx hb dX5_takeBytes_44 rfl (lv_at hl 1 rfl) ?_
                refine va_get (D := D) (ci := 5) (v := .ref bX) (C := RX5) (T := TX5) (N := 7) hx hb hts iX5_takeBytes_X5 hown hK hP 0 rfl rfl 0 (by decide) (hts (.fieldLink RX5 9 "TapeCalculator$Text" "bytes" "[B") (List.mem_of_getElem? (i := 2) rfl)) (fun _ h9 => h9) rfl dX5_takeBytes_45 ?_
                refine lv_aload_n hx hb dX5_takeBytes_48 rfl (lv_at hl 1 rfl) ?_
                refine va_get (D := D) (ci := 5) (v := .int 1) (C := RX5) (T := TX5) (N := 7) hx hb hts iX5_takeBytes_X5 hown hK hP 0 rfl rfl 1 (by decide) (hts (.fieldLink RX5 19 "TapeCalculator$Text" "length" "I") (List.mem_of_getElem? (i := 1) rfl)) (fun _ h9 => h9) rfl dX5_takeBytes_49 ?_
                refine lv_lload_n hx hb dX5_takeBytes_52 rfl (lv_at hl 2 rfl) ?_
                refine lv_bipush (v := 8) hx hb dX5_takeBytes_53 (by decide) ?_
                refine lv_iload hx hb dX5_takeBytes_55 (lv_at hl 0 rfl) ?_
                refine lv_imul hx hb dX5_takeBytes_57 ?_
                refine lv_topi (fun x_66 ex_66 => ?_)
                obtain rfl : x_66 = 8 := ex_66.trans (by decide)
                refine lv_lshr hx hb dX5_takeBytes_58 rfl ?_
                refine lv_l2i hx hb dX5_takeBytes_59 rfl ?_
                refine lv_i2b hx hb dX5_takeBytes_60 rfl ?_
                refine va_bast hx hb hK hP hD hS 1 2 rfl rfl (vp_in_iff.mpr (by decide)) dX5_takeBytes_61 (fun H locs hP hD hS => ?_)
                have hP : va_P D vwCl [(aX, .inr (5, [.ref bX, .int 1, .int (-1), .int 0, .int 0, .int 0, .long 0])), (bX, .inl (cB, 2000, .inl (upd (upd (fun _ => 0) (0 : Int32).toNatClampNeg (vp_nar .byte (v >>> ((0 : Int32).toInt64 &&& 63)).toInt32.toInt8.toInt32)) (1 : Int32).toNatClampNeg (vp_nar .byte (v >>> ((8 : Int32).toInt64 &&& 63)).toInt32.toInt8.toInt32))))] H := hP
                have hD : va_D A [(aX, .inr (5, [.ref bX, .int 1, .int (-1), .int 0, .int 0, .int 0, .long 0])), (bX, .inl (cB, 2000, .inl (upd (upd (fun _ => 0) (0 : Int32).toNatClampNeg (vp_nar .byte (v >>> ((0 : Int32).toInt64 &&& 63)).toInt32.toInt8.toInt32)) (1 : Int32).toNatClampNeg (vp_nar .byte (v >>> ((8 : Int32).toInt64 &&& 63)).toInt32.toInt8.toInt32))))] := hD
                refine lv_aload_n hx hb dX5_takeBytes_62 rfl (lv_at hl 1 rfl) ?_
                refine lv_dup hx hb dX5_takeBytes_63 rfl ?_
                refine va_get (D := D) (ci := 5) (v := .int 1) (C := RX5) (T := TX5) (N := 7) hx hb hts iX5_takeBytes_X5 hown hK hP 0 rfl rfl 1 (by decide) (hts (.fieldLink RX5 19 "TapeCalculator$Text" "length" "I") (List.mem_of_getElem? (i := 1) rfl)) (fun _ h9 => h9) rfl dX5_takeBytes_64 ?_
                refine lv_iconst (v := 1) hx hb dX5_takeBytes_67 (by decide) ?_
                refine lv_iadd hx hb dX5_takeBytes_68 ?_
                refine lv_topi (fun x_67 ex_67 => ?_)
                obtain rfl : x_67 = 2 := ex_67.trans (by decide)
                refine va_put (D := D) (ci := 5) (v := .int 2) (ty := .int) (C := RX5) (T := TX5) (N := 7) hx hb hts iX5_takeBytes_X5 tyX5 tyX5_ok nmX5 hown hK hP hD hS 0 rfl rfl 1 (by decide) (hts (.fieldLink RX5 19 "TapeCalculator$Text" "length" "I") (List.mem_of_getElem? (i := 1) rfl)) (fun _ h9 => h9) rfl (by decide +kernel) rfl rfl (Nat.le_of_ble_eq_true rfl) dX5_takeBytes_69 (fun H locs hP hD hS => ?_)
                have hP : va_P D vwCl [(aX, .inr (5, [.ref bX, .int 2, .int (-1), .int 0, .int 0, .int 0, .long 0])), (bX, .inl (cB, 2000, .inl (upd (upd (fun _ => 0) (0 : Int32).toNatClampNeg (vp_nar .byte (v >>> ((0 : Int32).toInt64 &&& 63)).toInt32.toInt8.toInt32)) (1 : Int32).toNatClampNeg (vp_nar .byte (v >>> ((8 : Int32).toInt64 &&& 63)).toInt32.toInt8.toInt32))))] H := hP
                have hD : va_D A [(aX, .inr (5, [.ref bX, .int 2, .int (-1), .int 0, .int 0, .int 0, .long 0])), (bX, .inl (cB, 2000, .inl (upd (upd (fun _ => 0) (0 : Int32).toNatClampNeg (vp_nar .byte (v >>> ((0 : Int32).toInt64 &&& 63)).toInt32.toInt8.toInt32)) (1 : Int32).toNatClampNeg (vp_nar .byte (v >>> ((8 : Int32).toInt64 &&& 63)).toInt32.toInt8.toInt32))))] := hD
                refine lv_iinc (v := 2) (lv' := [(4, .int 2), (0, .ref aX), (1, .long v), (3, .int 5)]) hx hb dX5_takeBytes_72 hl (k := 0) rfl (by decide) (by decide) rfl (fun ls hl => ?_)
                refine lv_goto (tgt := 26) hx hb dX5_takeBytes_75 (by decide) ?_
                refine lv_iload hx hb dX5_takeBytes_26 (lv_at hl 0 rfl) ?_
                refine lv_iload_n hx hb dX5_takeBytes_28 rfl (lv_at hl 3 rfl) ?_
                refine lv_icmp_ge (tgt := 78) hx hb dX5_takeBytes_29 (by decide) (fun c_29_67 => ?_) (fun c_29_67 => ?_)
                · exact absurd c_29_67 (by decide)
                · have t_29_67 := c_29_67
                  try simp only [kb_eq0, kb_ne0, lg_cmp_lt, lg_cmp_le, lg_cmp_gt, lg_cmp_ge, lg_cmp_eq] at t_29_67
                  try simp only [Int32.lt_iff_toInt_lt, Int32.le_iff_toInt_le, ← Int32.toInt_inj, Int64.lt_iff_toInt_lt, Int64.le_iff_toInt_le, ← Int64.toInt_inj, Int32.toInt_toInt64, Int32.reduceToInt, Int64.reduceToInt] at t_29_67
                  refine lv_aload_n hx hb dX5_takeBytes_32 rfl (lv_at hl 1 rfl) ?_
                  refine va_get (D := D) (ci := 5) (v := .int 2) (C := RX5) (T := TX5) (N := 7) hx hb hts iX5_takeBytes_X5 hown hK hP 0 rfl rfl 1 (by decide) (hts (.fieldLink RX5 19 "TapeCalculator$Text" "length" "I") (List.mem_of_getElem? (i := 1) rfl)) (fun _ h9 => h9) rfl dX5_takeBytes_33 ?_
                  refine lv_aload_n hx hb dX5_takeBytes_36 rfl (lv_at hl 1 rfl) ?_
                  refine va_get (D := D) (ci := 5) (v := .ref bX) (C := RX5) (T := TX5) (N := 7) hx hb hts iX5_takeBytes_X5 hown hK hP 0 rfl rfl 0 (by decide) (hts (.fieldLink RX5 9 "TapeCalculator$Text" "bytes" "[B") (List.mem_of_getElem? (i := 2) rfl)) (fun _ h9 => h9) rfl dX5_takeBytes_37 ?_
                  refine va_alen hx hb hK hP 1 2 rfl rfl (v := 2000) rfl dX5_takeBytes_40 ?_
                  refine lv_icmp_ge (tgt := 78) hx hb dX5_takeBytes_41 (by decide) (fun c_41_68 => ?_) (fun c_41_68 => ?_)
                  · exact absurd c_41_68 (by decide)
                  · have t_41_68 := c_41_68
                    try simp only [kb_eq0, kb_ne0, lg_cmp_lt, lg_cmp_le, lg_cmp_gt, lg_cmp_ge, lg_cmp_eq] at t_41_68
                    try simp only [Int32.lt_iff_toInt_lt, Int32.le_iff_toInt_le, ← Int32.toInt_inj, Int64.lt_iff_toInt_lt, Int64.le_iff_toInt_le, ← Int64.toInt_inj, Int32.toInt_toInt64, Int32.reduceToInt, Int64.reduceToInt] at t_41_68
                    refine lv_aload_n hx hb dX5_takeBytes_44 rfl (lv_at hl 1 rfl) ?_
                    refine va_get (D := D) (ci := 5) (v := .ref bX) (C := RX5) (T := TX5) (N := 7) hx hb hts iX5_takeBytes_X5 hown hK hP 0 rfl rfl 0 (by decide) (hts (.fieldLink RX5 9 "TapeCalculator$Text" "bytes" "[B") (List.mem_of_getElem? (i := 2) rfl)) (fun _ h9 => h9) rfl dX5_takeBytes_45 ?_
                    refine lv_aload_n hx hb dX5_takeBytes_48 rfl (lv_at hl 1 rfl) ?_
                    refine va_get (D := D) (ci := 5) (v := .int 2) (C := RX5) (T := TX5) (N := 7) hx hb hts iX5_takeBytes_X5 hown hK hP 0 rfl rfl 1 (by decide) (hts (.fieldLink RX5 19 "TapeCalculator$Text" "length" "I") (List.mem_of_getElem? (i := 1) rfl)) (fun _ h9 => h9) rfl dX5_takeBytes_49 ?_
                    refine lv_lload_n hx hb dX5_takeBytes_52 rfl (lv_at hl 2 rfl) ?_
                    refine lv_bipush (v := 8) hx hb dX5_takeBytes_53 (by decide) ?_
                    refine lv_iload hx hb dX5_takeBytes_55 (lv_at hl 0 rfl) ?_
                    refine lv_imul hx hb dX5_takeBytes_57 ?_
                    refine lv_topi (fun x_70 ex_70 => ?_)
                    obtain rfl : x_70 = 16 := ex_70.trans (by decide)
                    refine lv_lshr hx hb dX5_takeBytes_58 rfl ?_
                    refine lv_l2i hx hb dX5_takeBytes_59 rfl ?_
                    refine lv_i2b hx hb dX5_takeBytes_60 rfl ?_
                    refine va_bast hx hb hK hP hD hS 1 2 rfl rfl (vp_in_iff.mpr (by decide)) dX5_takeBytes_61 (fun H locs hP hD hS => ?_)
                    have hP : va_P D vwCl [(aX, .inr (5, [.ref bX, .int 2, .int (-1), .int 0, .int 0, .int 0, .long 0])), (bX, .inl (cB, 2000, .inl (upd (upd (upd (fun _ => 0) (0 : Int32).toNatClampNeg (vp_nar .byte (v >>> ((0 : Int32).toInt64 &&& 63)).toInt32.toInt8.toInt32)) (1 : Int32).toNatClampNeg (vp_nar .byte (v >>> ((8 : Int32).toInt64 &&& 63)).toInt32.toInt8.toInt32)) (2 : Int32).toNatClampNeg (vp_nar .byte (v >>> ((16 : Int32).toInt64 &&& 63)).toInt32.toInt8.toInt32))))] H := hP
                    have hD : va_D A [(aX, .inr (5, [.ref bX, .int 2, .int (-1), .int 0, .int 0, .int 0, .long 0])), (bX, .inl (cB, 2000, .inl (upd (upd (upd (fun _ => 0) (0 : Int32).toNatClampNeg (vp_nar .byte (v >>> ((0 : Int32).toInt64 &&& 63)).toInt32.toInt8.toInt32)) (1 : Int32).toNatClampNeg (vp_nar .byte (v >>> ((8 : Int32).toInt64 &&& 63)).toInt32.toInt8.toInt32)) (2 : Int32).toNatClampNeg (vp_nar .byte (v >>> ((16 : Int32).toInt64 &&& 63)).toInt32.toInt8.toInt32))))] := hD
                    refine lv_aload_n hx hb dX5_takeBytes_62 rfl (lv_at hl 1 rfl) ?_
                    refine lv_dup hx hb dX5_takeBytes_63 rfl ?_
                    refine va_get (D := D) (ci := 5) (v := .int 2) (C := RX5) (T := TX5) (N := 7) hx hb hts iX5_takeBytes_X5 hown hK hP 0 rfl rfl 1 (by decide) (hts (.fieldLink RX5 19 "TapeCalculator$Text" "length" "I") (List.mem_of_getElem? (i := 1) rfl)) (fun _ h9 => h9) rfl dX5_takeBytes_64 ?_
                    refine lv_iconst (v := 1) hx hb dX5_takeBytes_67 (by decide) ?_
                    refine lv_iadd hx hb dX5_takeBytes_68 ?_
                    refine lv_topi (fun x_71 ex_71 => ?_)
                    obtain rfl : x_71 = 3 := ex_71.trans (by decide)
                    refine va_put (D := D) (ci := 5) (v := .int 3) (ty := .int) (C := RX5) (T := TX5) (N := 7) hx hb hts iX5_takeBytes_X5 tyX5 tyX5_ok nmX5 hown hK hP hD hS 0 rfl rfl 1 (by decide) (hts (.fieldLink RX5 19 "TapeCalculator$Text" "length" "I") (List.mem_of_getElem? (i := 1) rfl)) (fun _ h9 => h9) rfl (by decide +kernel) rfl rfl (Nat.le_of_ble_eq_true rfl) dX5_takeBytes_69 (fun H locs hP hD hS => ?_)
                    have hP : va_P D vwCl [(aX, .inr (5, [.ref bX, .int 3, .int (-1), .int 0, .int 0, .int 0, .long 0])), (bX, .inl (cB, 2000, .inl (upd (upd (upd (fun _ => 0) (0 : Int32).toNatClampNeg (vp_nar .byte (v >>> ((0 : Int32).toInt64 &&& 63)).toInt32.toInt8.toInt32)) (1 : Int32).toNatClampNeg (vp_nar .byte (v >>> ((8 : Int32).toInt64 &&& 63)).toInt32.toInt8.toInt32)) (2 : Int32).toNatClampNeg (vp_nar .byte (v >>> ((16 : Int32).toInt64 &&& 63)).toInt32.toInt8.toInt32))))] H := hP
                    have hD : va_D A [(aX, .inr (5, [.ref bX, .int 3, .int (-1), .int 0, .int 0, .int 0, .long 0])), (bX, .inl (cB, 2000, .inl (upd (upd (upd (fun _ => 0) (0 : Int32).toNatClampNeg (vp_nar .byte (v >>> ((0 : Int32).toInt64 &&& 63)).toInt32.toInt8.toInt32)) (1 : Int32).toNatClampNeg (vp_nar .byte (v >>> ((8 : Int32).toInt64 &&& 63)).toInt32.toInt8.toInt32)) (2 : Int32).toNatClampNeg (vp_nar .byte (v >>> ((16 : Int32).toInt64 &&& 63)).toInt32.toInt8.toInt32))))] := hD
                    refine lv_iinc (v := 3) (lv' := [(4, .int 3), (0, .ref aX), (1, .long v), (3, .int 5)]) hx hb dX5_takeBytes_72 hl (k := 0) rfl (by decide) (by decide) rfl (fun ls hl => ?_)
                    refine lv_goto (tgt := 26) hx hb dX5_takeBytes_75 (by decide) ?_
                    refine lv_iload hx hb dX5_takeBytes_26 (lv_at hl 0 rfl) ?_
                    refine lv_iload_n hx hb dX5_takeBytes_28 rfl (lv_at hl 3 rfl) ?_
                    refine lv_icmp_ge (tgt := 78) hx hb dX5_takeBytes_29 (by decide) (fun c_29_71 => ?_) (fun c_29_71 => ?_)
                    · exact absurd c_29_71 (by decide)
                    · have t_29_71 := c_29_71
                      try simp only [kb_eq0, kb_ne0, lg_cmp_lt, lg_cmp_le, lg_cmp_gt, lg_cmp_ge, lg_cmp_eq] at t_29_71
                      try simp only [Int32.lt_iff_toInt_lt, Int32.le_iff_toInt_le, ← Int32.toInt_inj, Int64.lt_iff_toInt_lt, Int64.le_iff_toInt_le, ← Int64.toInt_inj, Int32.toInt_toInt64, Int32.reduceToInt, Int64.reduceToInt] at t_29_71
                      refine lv_aload_n hx hb dX5_takeBytes_32 rfl (lv_at hl 1 rfl) ?_
                      refine va_get (D := D) (ci := 5) (v := .int 3) (C := RX5) (T := TX5) (N := 7) hx hb hts iX5_takeBytes_X5 hown hK hP 0 rfl rfl 1 (by decide) (hts (.fieldLink RX5 19 "TapeCalculator$Text" "length" "I") (List.mem_of_getElem? (i := 1) rfl)) (fun _ h9 => h9) rfl dX5_takeBytes_33 ?_
                      refine lv_aload_n hx hb dX5_takeBytes_36 rfl (lv_at hl 1 rfl) ?_
                      refine va_get (D := D) (ci := 5) (v := .ref bX) (C := RX5) (T := TX5) (N := 7) hx hb hts iX5_takeBytes_X5 hown hK hP 0 rfl rfl 0 (by decide) (hts (.fieldLink RX5 9 "TapeCalculator$Text" "bytes" "[B") (List.mem_of_getElem? (i := 2) rfl)) (fun _ h9 => h9) rfl dX5_takeBytes_37 ?_
                      refine va_alen hx hb hK hP 1 2 rfl rfl (v := 2000) rfl dX5_takeBytes_40 ?_
                      refine lv_icmp_ge (tgt := 78) hx hb dX5_takeBytes_41 (by decide) (fun c_41_72 => ?_) (fun c_41_72 => ?_)
                      · exact absurd c_41_72 (by decide)
                      · have t_41_72 := c_41_72
                        try simp only [kb_eq0, kb_ne0, lg_cmp_lt, lg_cmp_le, lg_cmp_gt, lg_cmp_ge, lg_cmp_eq] at t_41_72
                        try simp only [Int32.lt_iff_toInt_lt, Int32.le_iff_toInt_le, ← Int32.toInt_inj, Int64.lt_iff_toInt_lt, Int64.le_iff_toInt_le, ← Int64.toInt_inj, Int32.toInt_toInt64, Int32.reduceToInt, Int64.reduceToInt] at t_41_72
                        refine lv_aload_n hx hb dX5_takeBytes_44 rfl (lv_at hl 1 rfl) ?_
                        refine va_get (D := D) (ci := 5) (v := .ref bX) (C := RX5) (T := TX5) (N := 7) hx hb hts iX5_takeBytes_X5 hown hK hP 0 rfl rfl 0 (by decide) (hts (.fieldLink RX5 9 "TapeCalculator$Text" "bytes" "[B") (List.mem_of_getElem? (i := 2) rfl)) (fun _ h9 => h9) rfl dX5_takeBytes_45 ?_
                        refine lv_aload_n hx hb dX5_takeBytes_48 rfl (lv_at hl 1 rfl) ?_
                        refine va_get (D := D) (ci := 5) (v := .int 3) (C := RX5) (T := TX5) (N := 7) hx hb hts iX5_takeBytes_X5 hown hK hP 0 rfl rfl 1 (by decide) (hts (.fieldLink RX5 19 "TapeCalculator$Text" "length" "I") (List.mem_of_getElem? (i := 1) rfl)) (fun _ h9 => h9) rfl dX5_takeBytes_49 ?_
                        refine lv_lload_n hx hb dX5_takeBytes_52 rfl (lv_at hl 2 rfl) ?_
                        refine lv_bipush (v := 8) hx hb dX5_takeBytes_53 (by decide) ?_
                        refine lv_iload hx hb dX5_takeBytes_55 (lv_at hl 0 rfl) ?_
                        refine lv_imul hx hb dX5_takeBytes_57 ?_
                        refine lv_topi (fun x_74 ex_74 => ?_)
                        obtain rfl : x_74 = 24 := ex_74.trans (by decide)
                        refine lv_lshr hx hb dX5_takeBytes_58 rfl ?_
                        refine lv_l2i hx hb dX5_takeBytes_59 rfl ?_
                        refine lv_i2b hx hb dX5_takeBytes_60 rfl ?_
                        refine va_bast hx hb hK hP hD hS 1 2 rfl rfl (vp_in_iff.mpr (by decide)) dX5_takeBytes_61 (fun H locs hP hD hS => ?_)
                        have hP : va_P D vwCl [(aX, .inr (5, [.ref bX, .int 3, .int (-1), .int 0, .int 0, .int 0, .long 0])), (bX, .inl (cB, 2000, .inl (upd (upd (upd (upd (fun _ => 0) (0 : Int32).toNatClampNeg (vp_nar .byte (v >>> ((0 : Int32).toInt64 &&& 63)).toInt32.toInt8.toInt32)) (1 : Int32).toNatClampNeg (vp_nar .byte (v >>> ((8 : Int32).toInt64 &&& 63)).toInt32.toInt8.toInt32)) (2 : Int32).toNatClampNeg (vp_nar .byte (v >>> ((16 : Int32).toInt64 &&& 63)).toInt32.toInt8.toInt32)) (3 : Int32).toNatClampNeg (vp_nar .byte (v >>> ((24 : Int32).toInt64 &&& 63)).toInt32.toInt8.toInt32))))] H := hP
                        have hD : va_D A [(aX, .inr (5, [.ref bX, .int 3, .int (-1), .int 0, .int 0, .int 0, .long 0])), (bX, .inl (cB, 2000, .inl (upd (upd (upd (upd (fun _ => 0) (0 : Int32).toNatClampNeg (vp_nar .byte (v >>> ((0 : Int32).toInt64 &&& 63)).toInt32.toInt8.toInt32)) (1 : Int32).toNatClampNeg (vp_nar .byte (v >>> ((8 : Int32).toInt64 &&& 63)).toInt32.toInt8.toInt32)) (2 : Int32).toNatClampNeg (vp_nar .byte (v >>> ((16 : Int32).toInt64 &&& 63)).toInt32.toInt8.toInt32)) (3 : Int32).toNatClampNeg (vp_nar .byte (v >>> ((24 : Int32).toInt64 &&& 63)).toInt32.toInt8.toInt32))))] := hD
                        refine lv_aload_n hx hb dX5_takeBytes_62 rfl (lv_at hl 1 rfl) ?_
                        refine lv_dup hx hb dX5_takeBytes_63 rfl ?_
                        refine va_get (D := D) (ci := 5) (v := .int 3) (C := RX5) (T := TX5) (N := 7) hx hb hts iX5_takeBytes_X5 hown hK hP 0 rfl rfl 1 (by decide) (hts (.fieldLink RX5 19 "TapeCalculator$Text" "length" "I") (List.mem_of_getElem? (i := 1) rfl)) (fun _ h9 => h9) rfl dX5_takeBytes_64 ?_
                        refine lv_iconst (v := 1) hx hb dX5_takeBytes_67 (by decide) ?_
                        refine lv_iadd hx hb dX5_takeBytes_68 ?_
                        refine lv_topi (fun x_75 ex_75 => ?_)
                        obtain rfl : x_75 = 4 := ex_75.trans (by decide)
                        refine va_put (D := D) (ci := 5) (v := .int 4) (ty := .int) (C := RX5) (T := TX5) (N := 7) hx hb hts iX5_takeBytes_X5 tyX5 tyX5_ok nmX5 hown hK hP hD hS 0 rfl rfl 1 (by decide) (hts (.fieldLink RX5 19 "TapeCalculator$Text" "length" "I") (List.mem_of_getElem? (i := 1) rfl)) (fun _ h9 => h9) rfl (by decide +kernel) rfl rfl (Nat.le_of_ble_eq_true rfl) dX5_takeBytes_69 (fun H locs hP hD hS => ?_)
                        have hP : va_P D vwCl [(aX, .inr (5, [.ref bX, .int 4, .int (-1), .int 0, .int 0, .int 0, .long 0])), (bX, .inl (cB, 2000, .inl (upd (upd (upd (upd (fun _ => 0) (0 : Int32).toNatClampNeg (vp_nar .byte (v >>> ((0 : Int32).toInt64 &&& 63)).toInt32.toInt8.toInt32)) (1 : Int32).toNatClampNeg (vp_nar .byte (v >>> ((8 : Int32).toInt64 &&& 63)).toInt32.toInt8.toInt32)) (2 : Int32).toNatClampNeg (vp_nar .byte (v >>> ((16 : Int32).toInt64 &&& 63)).toInt32.toInt8.toInt32)) (3 : Int32).toNatClampNeg (vp_nar .byte (v >>> ((24 : Int32).toInt64 &&& 63)).toInt32.toInt8.toInt32))))] H := hP
                        have hD : va_D A [(aX, .inr (5, [.ref bX, .int 4, .int (-1), .int 0, .int 0, .int 0, .long 0])), (bX, .inl (cB, 2000, .inl (upd (upd (upd (upd (fun _ => 0) (0 : Int32).toNatClampNeg (vp_nar .byte (v >>> ((0 : Int32).toInt64 &&& 63)).toInt32.toInt8.toInt32)) (1 : Int32).toNatClampNeg (vp_nar .byte (v >>> ((8 : Int32).toInt64 &&& 63)).toInt32.toInt8.toInt32)) (2 : Int32).toNatClampNeg (vp_nar .byte (v >>> ((16 : Int32).toInt64 &&& 63)).toInt32.toInt8.toInt32)) (3 : Int32).toNatClampNeg (vp_nar .byte (v >>> ((24 : Int32).toInt64 &&& 63)).toInt32.toInt8.toInt32))))] := hD
                        refine lv_iinc (v := 4) (lv' := [(4, .int 4), (0, .ref aX), (1, .long v), (3, .int 5)]) hx hb dX5_takeBytes_72 hl (k := 0) rfl (by decide) (by decide) rfl (fun ls hl => ?_)
                        refine lv_goto (tgt := 26) hx hb dX5_takeBytes_75 (by decide) ?_
                        refine lv_iload hx hb dX5_takeBytes_26 (lv_at hl 0 rfl) ?_
                        refine lv_iload_n hx hb dX5_takeBytes_28 rfl (lv_at hl 3 rfl) ?_
                        refine lv_icmp_ge (tgt := 78) hx hb dX5_takeBytes_29 (by decide) (fun c_29_75 => ?_) (fun c_29_75 => ?_)
                        · exact absurd c_29_75 (by decide)
                        · have t_29_75 := c_29_75
                          try simp only [kb_eq0, kb_ne0, lg_cmp_lt, lg_cmp_le, lg_cmp_gt, lg_cmp_ge, lg_cmp_eq] at t_29_75
                          try simp only [Int32.lt_iff_toInt_lt, Int32.le_iff_toInt_le, ← Int32.toInt_inj, Int64.lt_iff_toInt_lt, Int64.le_iff_toInt_le, ← Int64.toInt_inj, Int32.toInt_toInt64, Int32.reduceToInt, Int64.reduceToInt] at t_29_75
                          refine lv_aload_n hx hb dX5_takeBytes_32 rfl (lv_at hl 1 rfl) ?_
                          refine va_get (D := D) (ci := 5) (v := .int 4) (C := RX5) (T := TX5) (N := 7) hx hb hts iX5_takeBytes_X5 hown hK hP 0 rfl rfl 1 (by decide) (hts (.fieldLink RX5 19 "TapeCalculator$Text" "length" "I") (List.mem_of_getElem? (i := 1) rfl)) (fun _ h9 => h9) rfl dX5_takeBytes_33 ?_
                          refine lv_aload_n hx hb dX5_takeBytes_36 rfl (lv_at hl 1 rfl) ?_
                          refine va_get (D := D) (ci := 5) (v := .ref bX) (C := RX5) (T := TX5) (N := 7) hx hb hts iX5_takeBytes_X5 hown hK hP 0 rfl rfl 0 (by decide) (hts (.fieldLink RX5 9 "TapeCalculator$Text" "bytes" "[B") (List.mem_of_getElem? (i := 2) rfl)) (fun _ h9 => h9) rfl dX5_takeBytes_37 ?_
                          refine va_alen hx hb hK hP 1 2 rfl rfl (v := 2000) rfl dX5_takeBytes_40 ?_
                          refine lv_icmp_ge (tgt := 78) hx hb dX5_takeBytes_41 (by decide) (fun c_41_76 => ?_) (fun c_41_76 => ?_)
                          · exact absurd c_41_76 (by decide)
                          · have t_41_76 := c_41_76
                            try simp only [kb_eq0, kb_ne0, lg_cmp_lt, lg_cmp_le, lg_cmp_gt, lg_cmp_ge, lg_cmp_eq] at t_41_76
                            try simp only [Int32.lt_iff_toInt_lt, Int32.le_iff_toInt_le, ← Int32.toInt_inj, Int64.lt_iff_toInt_lt, Int64.le_iff_toInt_le, ← Int64.toInt_inj, Int32.toInt_toInt64, Int32.reduceToInt, Int64.reduceToInt] at t_41_76
                            refine lv_aload_n hx hb dX5_takeBytes_44 rfl (lv_at hl 1 rfl) ?_
                            refine va_get (D := D) (ci := 5) (v := .ref bX) (C := RX5) (T := TX5) (N := 7) hx hb hts iX5_takeBytes_X5 hown hK hP 0 rfl rfl 0 (by decide) (hts (.fieldLink RX5 9 "TapeCalculator$Text" "bytes" "[B") (List.mem_of_getElem? (i := 2) rfl)) (fun _ h9 => h9) rfl dX5_takeBytes_45 ?_
                            refine lv_aload_n hx hb dX5_takeBytes_48 rfl (lv_at hl 1 rfl) ?_
                            refine va_get (D := D) (ci := 5) (v := .int 4) (C := RX5) (T := TX5) (N := 7) hx hb hts iX5_takeBytes_X5 hown hK hP 0 rfl rfl 1 (by decide) (hts (.fieldLink RX5 19 "TapeCalculator$Text" "length" "I") (List.mem_of_getElem? (i := 1) rfl)) (fun _ h9 => h9) rfl dX5_takeBytes_49 ?_
                            refine lv_lload_n hx hb dX5_takeBytes_52 rfl (lv_at hl 2 rfl) ?_
                            refine lv_bipush (v := 8) hx hb dX5_takeBytes_53 (by decide) ?_
                            refine lv_iload hx hb dX5_takeBytes_55 (lv_at hl 0 rfl) ?_
                            refine lv_imul hx hb dX5_takeBytes_57 ?_
                            refine lv_topi (fun x_78 ex_78 => ?_)
                            obtain rfl : x_78 = 32 := ex_78.trans (by decide)
                            refine lv_lshr hx hb dX5_takeBytes_58 rfl ?_
                            refine lv_l2i hx hb dX5_takeBytes_59 rfl ?_
                            refine lv_i2b hx hb dX5_takeBytes_60 rfl ?_
                            refine va_bast hx hb hK hP hD hS 1 2 rfl rfl (vp_in_iff.mpr (by decide)) dX5_takeBytes_61 (fun H locs hP hD hS => ?_)
                            have hP : va_P D vwCl [(aX, .inr (5, [.ref bX, .int 4, .int (-1), .int 0, .int 0, .int 0, .long 0])), (bX, .inl (cB, 2000, .inl (upd (upd (upd (upd (upd (fun _ => 0) (0 : Int32).toNatClampNeg (vp_nar .byte (v >>> ((0 : Int32).toInt64 &&& 63)).toInt32.toInt8.toInt32)) (1 : Int32).toNatClampNeg (vp_nar .byte (v >>> ((8 : Int32).toInt64 &&& 63)).toInt32.toInt8.toInt32)) (2 : Int32).toNatClampNeg (vp_nar .byte (v >>> ((16 : Int32).toInt64 &&& 63)).toInt32.toInt8.toInt32)) (3 : Int32).toNatClampNeg (vp_nar .byte (v >>> ((24 : Int32).toInt64 &&& 63)).toInt32.toInt8.toInt32)) (4 : Int32).toNatClampNeg (vp_nar .byte (v >>> ((32 : Int32).toInt64 &&& 63)).toInt32.toInt8.toInt32))))] H := hP
                            have hD : va_D A [(aX, .inr (5, [.ref bX, .int 4, .int (-1), .int 0, .int 0, .int 0, .long 0])), (bX, .inl (cB, 2000, .inl (upd (upd (upd (upd (upd (fun _ => 0) (0 : Int32).toNatClampNeg (vp_nar .byte (v >>> ((0 : Int32).toInt64 &&& 63)).toInt32.toInt8.toInt32)) (1 : Int32).toNatClampNeg (vp_nar .byte (v >>> ((8 : Int32).toInt64 &&& 63)).toInt32.toInt8.toInt32)) (2 : Int32).toNatClampNeg (vp_nar .byte (v >>> ((16 : Int32).toInt64 &&& 63)).toInt32.toInt8.toInt32)) (3 : Int32).toNatClampNeg (vp_nar .byte (v >>> ((24 : Int32).toInt64 &&& 63)).toInt32.toInt8.toInt32)) (4 : Int32).toNatClampNeg (vp_nar .byte (v >>> ((32 : Int32).toInt64 &&& 63)).toInt32.toInt8.toInt32))))] := hD
                            refine lv_aload_n hx hb dX5_takeBytes_62 rfl (lv_at hl 1 rfl) ?_
                            refine lv_dup hx hb dX5_takeBytes_63 rfl ?_
                            refine va_get (D := D) (ci := 5) (v := .int 4) (C := RX5) (T := TX5) (N := 7) hx hb hts iX5_takeBytes_X5 hown hK hP 0 rfl rfl 1 (by decide) (hts (.fieldLink RX5 19 "TapeCalculator$Text" "length" "I") (List.mem_of_getElem? (i := 1) rfl)) (fun _ h9 => h9) rfl dX5_takeBytes_64 ?_
                            refine lv_iconst (v := 1) hx hb dX5_takeBytes_67 (by decide) ?_
                            refine lv_iadd hx hb dX5_takeBytes_68 ?_
                            refine lv_topi (fun x_79 ex_79 => ?_)
                            obtain rfl : x_79 = 5 := ex_79.trans (by decide)
                            refine va_put (D := D) (ci := 5) (v := .int 5) (ty := .int) (C := RX5) (T := TX5) (N := 7) hx hb hts iX5_takeBytes_X5 tyX5 tyX5_ok nmX5 hown hK hP hD hS 0 rfl rfl 1 (by decide) (hts (.fieldLink RX5 19 "TapeCalculator$Text" "length" "I") (List.mem_of_getElem? (i := 1) rfl)) (fun _ h9 => h9) rfl (by decide +kernel) rfl rfl (Nat.le_of_ble_eq_true rfl) dX5_takeBytes_69 (fun H locs hP hD hS => ?_)
                            have hP : va_P D vwCl [(aX, .inr (5, [.ref bX, .int 5, .int (-1), .int 0, .int 0, .int 0, .long 0])), (bX, .inl (cB, 2000, .inl (upd (upd (upd (upd (upd (fun _ => 0) (0 : Int32).toNatClampNeg (vp_nar .byte (v >>> ((0 : Int32).toInt64 &&& 63)).toInt32.toInt8.toInt32)) (1 : Int32).toNatClampNeg (vp_nar .byte (v >>> ((8 : Int32).toInt64 &&& 63)).toInt32.toInt8.toInt32)) (2 : Int32).toNatClampNeg (vp_nar .byte (v >>> ((16 : Int32).toInt64 &&& 63)).toInt32.toInt8.toInt32)) (3 : Int32).toNatClampNeg (vp_nar .byte (v >>> ((24 : Int32).toInt64 &&& 63)).toInt32.toInt8.toInt32)) (4 : Int32).toNatClampNeg (vp_nar .byte (v >>> ((32 : Int32).toInt64 &&& 63)).toInt32.toInt8.toInt32))))] H := hP
                            have hD : va_D A [(aX, .inr (5, [.ref bX, .int 5, .int (-1), .int 0, .int 0, .int 0, .long 0])), (bX, .inl (cB, 2000, .inl (upd (upd (upd (upd (upd (fun _ => 0) (0 : Int32).toNatClampNeg (vp_nar .byte (v >>> ((0 : Int32).toInt64 &&& 63)).toInt32.toInt8.toInt32)) (1 : Int32).toNatClampNeg (vp_nar .byte (v >>> ((8 : Int32).toInt64 &&& 63)).toInt32.toInt8.toInt32)) (2 : Int32).toNatClampNeg (vp_nar .byte (v >>> ((16 : Int32).toInt64 &&& 63)).toInt32.toInt8.toInt32)) (3 : Int32).toNatClampNeg (vp_nar .byte (v >>> ((24 : Int32).toInt64 &&& 63)).toInt32.toInt8.toInt32)) (4 : Int32).toNatClampNeg (vp_nar .byte (v >>> ((32 : Int32).toInt64 &&& 63)).toInt32.toInt8.toInt32))))] := hD
                            refine lv_iinc (v := 5) (lv' := [(4, .int 5), (0, .ref aX), (1, .long v), (3, .int 5)]) hx hb dX5_takeBytes_72 hl (k := 0) rfl (by decide) (by decide) rfl (fun ls hl => ?_)
                            refine lv_goto (tgt := 26) hx hb dX5_takeBytes_75 (by decide) ?_
                            refine lv_iload hx hb dX5_takeBytes_26 (lv_at hl 0 rfl) ?_
                            refine lv_iload_n hx hb dX5_takeBytes_28 rfl (lv_at hl 3 rfl) ?_
                            refine lv_icmp_ge (tgt := 78) hx hb dX5_takeBytes_29 (by decide) (fun c_29_79 => ?_) (fun c_29_79 => ?_)
                            · have t_29_79 := c_29_79
                              try simp only [kb_eq0, kb_ne0, lg_cmp_lt, lg_cmp_le, lg_cmp_gt, lg_cmp_ge, lg_cmp_eq] at t_29_79
                              try simp only [Int32.lt_iff_toInt_lt, Int32.le_iff_toInt_le, ← Int32.toInt_inj, Int64.lt_iff_toInt_lt, Int64.le_iff_toInt_le, ← Int64.toInt_inj, Int32.toInt_toInt64, Int32.reduceToInt, Int64.reduceToInt] at t_29_79
                              refine lv_iconst (v := 1) hx hb dX5_takeBytes_78 (by decide) ?_
                              refine kIret (u := (upd (upd (upd (upd (upd (fun _ => 0) (0 : Int32).toNatClampNeg (vp_nar .byte (v >>> ((0 : Int32).toInt64 &&& 63)).toInt32.toInt8.toInt32)) (1 : Int32).toNatClampNeg (vp_nar .byte (v >>> ((8 : Int32).toInt64 &&& 63)).toInt32.toInt8.toInt32)) (2 : Int32).toNatClampNeg (vp_nar .byte (v >>> ((16 : Int32).toInt64 &&& 63)).toInt32.toInt8.toInt32)) (3 : Int32).toNatClampNeg (vp_nar .byte (v >>> ((24 : Int32).toInt64 &&& 63)).toInt32.toInt8.toInt32)) (4 : Int32).toNatClampNeg (vp_nar .byte (v >>> ((32 : Int32).toInt64 &&& 63)).toInt32.toInt8.toInt32))) hx hb hr rfl hlocks hS dX5_takeBytes_79 ?_ (hP.sub [0, 1] rfl) (hD.sub [0, 1] (by decide) rfl)
                              exact rfl
                            · exact absurd (by decide) c_29_79
      · exact absurd (by decide) c_18_58
  · refine lv_aload_n hx hb dX5_takeBytes_0 rfl (lv_at hl 0 rfl) ?_
    refine va_get (D := D) (ci := 5) (v := .int 0) (C := RX5) (T := TX5) (N := 7) hx hb hts iX5_takeBytes_X5 hown hK hP 0 rfl rfl 1 (by decide) (hts (.fieldLink RX5 19 "TapeCalculator$Text" "length" "I") (List.mem_of_getElem? (i := 1) rfl)) (fun _ h9 => h9) rfl dX5_takeBytes_1 ?_
    refine lv_if_lt (tgt := 21) hx hb dX5_takeBytes_4 (by decide) (fun c_4_80 => ?_) (fun c_4_80 => ?_)
    · exact absurd c_4_80 (by decide)
    · have t_4_80 := c_4_80
      try simp only [kb_eq0, kb_ne0, lg_cmp_lt, lg_cmp_le, lg_cmp_gt, lg_cmp_ge, lg_cmp_eq] at t_4_80
      try simp only [Int32.lt_iff_toInt_lt, Int32.le_iff_toInt_le, ← Int32.toInt_inj, Int64.lt_iff_toInt_lt, Int64.le_iff_toInt_le, ← Int64.toInt_inj, Int32.toInt_toInt64, Int32.reduceToInt, Int64.reduceToInt] at t_4_80
      refine lv_aload_n hx hb dX5_takeBytes_7 rfl (lv_at hl 0 rfl) ?_
      refine va_get (D := D) (ci := 5) (v := .int 0) (C := RX5) (T := TX5) (N := 7) hx hb hts iX5_takeBytes_X5 hown hK hP 0 rfl rfl 1 (by decide) (hts (.fieldLink RX5 19 "TapeCalculator$Text" "length" "I") (List.mem_of_getElem? (i := 1) rfl)) (fun _ h9 => h9) rfl dX5_takeBytes_8 ?_
      refine lv_iload_n hx hb dX5_takeBytes_11 rfl (lv_at hl 2 rfl) ?_
      refine lv_iadd hx hb dX5_takeBytes_12 ?_
      refine lv_topi (fun x_82 ex_82 => ?_)
      obtain rfl : x_82 = 6 := ex_82.trans (by decide)
      refine lv_aload_n hx hb dX5_takeBytes_13 rfl (lv_at hl 0 rfl) ?_
      refine va_get (D := D) (ci := 5) (v := .ref bX) (C := RX5) (T := TX5) (N := 7) hx hb hts iX5_takeBytes_X5 hown hK hP 0 rfl rfl 0 (by decide) (hts (.fieldLink RX5 9 "TapeCalculator$Text" "bytes" "[B") (List.mem_of_getElem? (i := 2) rfl)) (fun _ h9 => h9) rfl dX5_takeBytes_14 ?_
      refine va_alen hx hb hK hP 1 2 rfl rfl (v := 2000) rfl dX5_takeBytes_17 ?_
      refine lv_icmp_le (tgt := 23) hx hb dX5_takeBytes_18 (by decide) (fun c_18_82 => ?_) (fun c_18_82 => ?_)
      · have t_18_82 := c_18_82
        try simp only [kb_eq0, kb_ne0, lg_cmp_lt, lg_cmp_le, lg_cmp_gt, lg_cmp_ge, lg_cmp_eq] at t_18_82
        try simp only [Int32.lt_iff_toInt_lt, Int32.le_iff_toInt_le, ← Int32.toInt_inj, Int64.lt_iff_toInt_lt, Int64.le_iff_toInt_le, ← Int64.toInt_inj, Int32.toInt_toInt64, Int32.reduceToInt, Int64.reduceToInt] at t_18_82
        refine lv_iconst (v := 0) hx hb dX5_takeBytes_23 (by decide) ?_
        refine lv_istore (lv' := [(4, .int 0), (0, .ref aX), (1, .long v), (3, .int 6)]) hx hb dX5_takeBytes_24 hl (by decide) rfl (fun ls hl => ?_)
        refine lv_iload hx hb dX5_takeBytes_26 (lv_at hl 0 rfl) ?_
        refine lv_iload_n hx hb dX5_takeBytes_28 rfl (lv_at hl 3 rfl) ?_
        refine lv_icmp_ge (tgt := 78) hx hb dX5_takeBytes_29 (by decide) (fun c_29_83 => ?_) (fun c_29_83 => ?_)
        · exact absurd c_29_83 (by decide)
        · have t_29_83 := c_29_83
          try simp only [kb_eq0, kb_ne0, lg_cmp_lt, lg_cmp_le, lg_cmp_gt, lg_cmp_ge, lg_cmp_eq] at t_29_83
          try simp only [Int32.lt_iff_toInt_lt, Int32.le_iff_toInt_le, ← Int32.toInt_inj, Int64.lt_iff_toInt_lt, Int64.le_iff_toInt_le, ← Int64.toInt_inj, Int32.toInt_toInt64, Int32.reduceToInt, Int64.reduceToInt] at t_29_83
          refine lv_aload_n hx hb dX5_takeBytes_32 rfl (lv_at hl 1 rfl) ?_
          refine va_get (D := D) (ci := 5) (v := .int 0) (C := RX5) (T := TX5) (N := 7) hx hb hts iX5_takeBytes_X5 hown hK hP 0 rfl rfl 1 (by decide) (hts (.fieldLink RX5 19 "TapeCalculator$Text" "length" "I") (List.mem_of_getElem? (i := 1) rfl)) (fun _ h9 => h9) rfl dX5_takeBytes_33 ?_
          refine lv_aload_n hx hb dX5_takeBytes_36 rfl (lv_at hl 1 rfl) ?_
          refine va_get (D := D) (ci := 5) (v := .ref bX) (C := RX5) (T := TX5) (N := 7) hx hb hts iX5_takeBytes_X5 hown hK hP 0 rfl rfl 0 (by decide) (hts (.fieldLink RX5 9 "TapeCalculator$Text" "bytes" "[B") (List.mem_of_getElem? (i := 2) rfl)) (fun _ h9 => h9) rfl dX5_takeBytes_37 ?_
          refine va_alen hx hb hK hP 1 2 rfl rfl (v := 2000) rfl dX5_takeBytes_40 ?_
          refine lv_icmp_ge (tgt := 78) hx hb dX5_takeBytes_41 (by decide) (fun c_41_84 => ?_) (fun c_41_84 => ?_)
          · exact absurd c_41_84 (by decide)
          · have t_41_84 := c_41_84
            try simp only [kb_eq0, kb_ne0, lg_cmp_lt, lg_cmp_le, lg_cmp_gt, lg_cmp_ge, lg_cmp_eq] at t_41_84
            try simp only [Int32.lt_iff_toInt_lt, Int32.le_iff_toInt_le, ← Int32.toInt_inj, Int64.lt_iff_toInt_lt, Int64.le_iff_toInt_le, ← Int64.toInt_inj, Int32.toInt_toInt64, Int32.reduceToInt, Int64.reduceToInt] at t_41_84
            refine lv_aload_n hx hb dX5_takeBytes_44 rfl (lv_at hl 1 rfl) ?_
            refine va_get (D := D) (ci := 5) (v := .ref bX) (C := RX5) (T := TX5) (N := 7) hx hb hts iX5_takeBytes_X5 hown hK hP 0 rfl rfl 0 (by decide) (hts (.fieldLink RX5 9 "TapeCalculator$Text" "bytes" "[B") (List.mem_of_getElem? (i := 2) rfl)) (fun _ h9 => h9) rfl dX5_takeBytes_45 ?_
            refine lv_aload_n hx hb dX5_takeBytes_48 rfl (lv_at hl 1 rfl) ?_
            refine va_get (D := D) (ci := 5) (v := .int 0) (C := RX5) (T := TX5) (N := 7) hx hb hts iX5_takeBytes_X5 hown hK hP 0 rfl rfl 1 (by decide) (hts (.fieldLink RX5 19 "TapeCalculator$Text" "length" "I") (List.mem_of_getElem? (i := 1) rfl)) (fun _ h9 => h9) rfl dX5_takeBytes_49 ?_
            refine lv_lload_n hx hb dX5_takeBytes_52 rfl (lv_at hl 2 rfl) ?_
            refine lv_bipush (v := 8) hx hb dX5_takeBytes_53 (by decide) ?_
            refine lv_iload hx hb dX5_takeBytes_55 (lv_at hl 0 rfl) ?_
            refine lv_imul hx hb dX5_takeBytes_57 ?_
            refine lv_topi (fun x_86 ex_86 => ?_)
            obtain rfl : x_86 = 0 := ex_86.trans (by decide)
            refine lv_lshr hx hb dX5_takeBytes_58 rfl ?_
            refine lv_l2i hx hb dX5_takeBytes_59 rfl ?_
            refine lv_i2b hx hb dX5_takeBytes_60 rfl ?_
            refine va_bast hx hb hK hP hD hS 1 2 rfl rfl (vp_in_iff.mpr (by decide)) dX5_takeBytes_61 (fun H locs hP hD hS => ?_)
            have hP : va_P D vwCl [(aX, .inr (5, [.ref bX, .int 0, .int (-1), .int 0, .int 0, .int 0, .long 0])), (bX, .inl (cB, 2000, .inl (upd (fun _ => 0) (0 : Int32).toNatClampNeg (vp_nar .byte (v >>> ((0 : Int32).toInt64 &&& 63)).toInt32.toInt8.toInt32))))] H := hP
            have hD : va_D A [(aX, .inr (5, [.ref bX, .int 0, .int (-1), .int 0, .int 0, .int 0, .long 0])), (bX, .inl (cB, 2000, .inl (upd (fun _ => 0) (0 : Int32).toNatClampNeg (vp_nar .byte (v >>> ((0 : Int32).toInt64 &&& 63)).toInt32.toInt8.toInt32))))] := hD
            refine lv_aload_n hx hb dX5_takeBytes_62 rfl (lv_at hl 1 rfl) ?_
            refine lv_dup hx hb dX5_takeBytes_63 rfl ?_
            refine va_get (D := D) (ci := 5) (v := .int 0) (C := RX5) (T := TX5) (N := 7) hx hb hts iX5_takeBytes_X5 hown hK hP 0 rfl rfl 1 (by decide) (hts (.fieldLink RX5 19 "TapeCalculator$Text" "length" "I") (List.mem_of_getElem? (i := 1) rfl)) (fun _ h9 => h9) rfl dX5_takeBytes_64 ?_
            refine lv_iconst (v := 1) hx hb dX5_takeBytes_67 (by decide) ?_
            refine lv_iadd hx hb dX5_takeBytes_68 ?_
            refine lv_topi (fun x_87 ex_87 => ?_)
            obtain rfl : x_87 = 1 := ex_87.trans (by decide)
            refine va_put (D := D) (ci := 5) (v := .int 1) (ty := .int) (C := RX5) (T := TX5) (N := 7) hx hb hts iX5_takeBytes_X5 tyX5 tyX5_ok nmX5 hown hK hP hD hS 0 rfl rfl 1 (by decide) (hts (.fieldLink RX5 19 "TapeCalculator$Text" "length" "I") (List.mem_of_getElem? (i := 1) rfl)) (fun _ h9 => h9) rfl (by decide +kernel) rfl rfl (Nat.le_of_ble_eq_true rfl) dX5_takeBytes_69 (fun H locs hP hD hS => ?_)
            have hP : va_P D vwCl [(aX, .inr (5, [.ref bX, .int 1, .int (-1), .int 0, .int 0, .int 0, .long 0])), (bX, .inl (cB, 2000, .inl (upd (fun _ => 0) (0 : Int32).toNatClampNeg (vp_nar .byte (v >>> ((0 : Int32).toInt64 &&& 63)).toInt32.toInt8.toInt32))))] H := hP
            have hD : va_D A [(aX, .inr (5, [.ref bX, .int 1, .int (-1), .int 0, .int 0, .int 0, .long 0])), (bX, .inl (cB, 2000, .inl (upd (fun _ => 0) (0 : Int32).toNatClampNeg (vp_nar .byte (v >>> ((0 : Int32).toInt64 &&& 63)).toInt32.toInt8.toInt32))))] := hD
            refine lv_iinc (v := 1) (lv' := [(4, .int 1), (0, .ref aX), (1, .long v), (3, .int 6)]) hx hb dX5_takeBytes_72 hl (k := 0) rfl (by decide) (by decide) rfl (fun ls hl => ?_)
            refine lv_goto (tgt := 26) hx hb dX5_takeBytes_75 (by decide) ?_
            refine lv_iload hx hb dX5_takeBytes_26 (lv_at hl 0 rfl) ?_
            refine lv_iload_n hx hb dX5_takeBytes_28 rfl (lv_at hl 3 rfl) ?_
            refine lv_icmp_ge (tgt := 78) hx hb dX5_takeBytes_29 (by decide) (fun c_29_87 => ?_) (fun c_29_87 => ?_)
            · exact absurd c_29_87 (by decide)
            · have t_29_87 := c_29_87
              try simp only [kb_eq0, kb_ne0, lg_cmp_lt, lg_cmp_le, lg_cmp_gt, lg_cmp_ge, lg_cmp_eq] at t_29_87
              try simp only [Int32.lt_iff_toInt_lt, Int32.le_iff_toInt_le, ← Int32.toInt_inj, Int64.lt_iff_toInt_lt, Int64.le_iff_toInt_le, ← Int64.toInt_inj, Int32.toInt_toInt64, Int32.reduceToInt, Int64.reduceToInt] at t_29_87
              refine lv_aload_n hx hb dX5_takeBytes_32 rfl (lv_at hl 1 rfl) ?_
              refine va_get (D := D) (ci := 5) (v := .int 1) (C := RX5) (T := TX5) (N := 7) hx hb hts iX5_takeBytes_X5 hown hK hP 0 rfl rfl 1 (by decide) (hts (.fieldLink RX5 19 "TapeCalculator$Text" "length" "I") (List.mem_of_getElem? (i := 1) rfl)) (fun _ h9 => h9) rfl dX5_takeBytes_33 ?_
              refine lv_aload_n hx hb dX5_takeBytes_36 rfl (lv_at hl 1 rfl) ?_
              refine va_get (D := D) (ci := 5) (v := .ref bX) (C := RX5) (T := TX5) (N := 7) hx hb hts iX5_takeBytes_X5 hown hK hP 0 rfl rfl 0 (by decide) (hts (.fieldLink RX5 9 "TapeCalculator$Text" "bytes" "[B") (List.mem_of_getElem? (i := 2) rfl)) (fun _ h9 => h9) rfl dX5_takeBytes_37 ?_
              refine va_alen hx hb hK hP 1 2 rfl rfl (v := 2000) rfl dX5_takeBytes_40 ?_
              refine lv_icmp_ge (tgt := 78) hx hb dX5_takeBytes_41 (by decide) (fun c_41_88 => ?_) (fun c_41_88 => ?_)
              · exact absurd c_41_88 (by decide)
              · have t_41_88 := c_41_88
                try simp only [kb_eq0, kb_ne0, lg_cmp_lt, lg_cmp_le, lg_cmp_gt, lg_cmp_ge, lg_cmp_eq] at t_41_88
                try simp only [Int32.lt_iff_toInt_lt, Int32.le_iff_toInt_le, ← Int32.toInt_inj, Int64.lt_iff_toInt_lt, Int64.le_iff_toInt_le, ← Int64.toInt_inj, Int32.toInt_toInt64, Int32.reduceToInt, Int64.reduceToInt] at t_41_88
                refine lv_aload_n hx hb dX5_takeBytes_44 rfl (lv_at hl 1 rfl) ?_
                refine va_get (D := D) (ci := 5) (v := .ref bX) (C := RX5) (T := TX5) (N := 7) hx hb hts iX5_takeBytes_X5 hown hK hP 0 rfl rfl 0 (by decide) (hts (.fieldLink RX5 9 "TapeCalculator$Text" "bytes" "[B") (List.mem_of_getElem? (i := 2) rfl)) (fun _ h9 => h9) rfl dX5_takeBytes_45 ?_
                refine lv_aload_n hx hb dX5_takeBytes_48 rfl (lv_at hl 1 rfl) ?_
                refine va_get (D := D) (ci := 5) (v := .int 1) (C := RX5) (T := TX5) (N := 7) hx hb hts iX5_takeBytes_X5 hown hK hP 0 rfl rfl 1 (by decide) (hts (.fieldLink RX5 19 "TapeCalculator$Text" "length" "I") (List.mem_of_getElem? (i := 1) rfl)) (fun _ h9 => h9) rfl dX5_takeBytes_49 ?_
                refine lv_lload_n hx hb dX5_takeBytes_52 rfl (lv_at hl 2 rfl) ?_
                refine lv_bipush (v := 8) hx hb dX5_takeBytes_53 (by decide) ?_
                refine lv_iload hx hb dX5_takeBytes_55 (lv_at hl 0 rfl) ?_
                refine lv_imul hx hb dX5_takeBytes_57 ?_
                refine lv_topi (fun x_90 ex_90 => ?_)
                obtain rfl : x_90 = 8 := ex_90.trans (by decide)
                refine lv_lshr hx hb dX5_takeBytes_58 rfl ?_
                refine lv_l2i hx hb dX5_takeBytes_59 rfl ?_
                refine lv_i2b hx hb dX5_takeBytes_60 rfl ?_
                refine va_bast hx hb hK hP hD hS 1 2 rfl rfl (vp_in_iff.mpr (by decide)) dX5_takeBytes_61 (fun H locs hP hD hS => ?_)
                have hP : va_P D vwCl [(aX, .inr (5, [.ref bX, .int 1, .int (-1), .int 0, .int 0, .int 0, .long 0])), (bX, .inl (cB, 2000, .inl (upd (upd (fun _ => 0) (0 : Int32).toNatClampNeg (vp_nar .byte (v >>> ((0 : Int32).toInt64 &&& 63)).toInt32.toInt8.toInt32)) (1 : Int32).toNatClampNeg (vp_nar .byte (v >>> ((8 : Int32).toInt64 &&& 63)).toInt32.toInt8.toInt32))))] H := hP
                have hD : va_D A [(aX, .inr (5, [.ref bX, .int 1, .int (-1), .int 0, .int 0, .int 0, .long 0])), (bX, .inl (cB, 2000, .inl (upd (upd (fun _ => 0) (0 : Int32).toNatClampNeg (vp_nar .byte (v >>> ((0 : Int32).toInt64 &&& 63)).toInt32.toInt8.toInt32)) (1 : Int32).toNatClampNeg (vp_nar .byte (v >>> ((8 : Int32).toInt64 &&& 63)).toInt32.toInt8.toInt32))))] := hD
                refine lv_aload_n hx hb dX5_takeBytes_62 rfl (lv_at hl 1 rfl) ?_
                refine lv_dup hx hb dX5_takeBytes_63 rfl ?_
                refine va_get (D := D) (ci := 5) (v := .int 1) (C := RX5) (T := TX5) (N := 7) hx hb hts iX5_takeBytes_X5 hown hK hP 0 rfl rfl 1 (by decide) (hts (.fieldLink RX5 19 "TapeCalculator$Text" "length" "I") (List.mem_of_getElem? (i := 1) rfl)) (fun _ h9 => h9) rfl dX5_takeBytes_64 ?_
                refine lv_iconst (v := 1) hx hb dX5_takeBytes_67 (by decide) ?_
                refine lv_iadd hx hb dX5_takeBytes_68 ?_
                refine lv_topi (fun x_91 ex_91 => ?_)
                obtain rfl : x_91 = 2 := ex_91.trans (by decide)
                refine va_put (D := D) (ci := 5) (v := .int 2) (ty := .int) (C := RX5) (T := TX5) (N := 7) hx hb hts iX5_takeBytes_X5 tyX5 tyX5_ok nmX5 hown hK hP hD hS 0 rfl rfl 1 (by decide) (hts (.fieldLink RX5 19 "TapeCalculator$Text" "length" "I") (List.mem_of_getElem? (i := 1) rfl)) (fun _ h9 => h9) rfl (by decide +kernel) rfl rfl (Nat.le_of_ble_eq_true rfl) dX5_takeBytes_69 (fun H locs hP hD hS => ?_)
                have hP : va_P D vwCl [(aX, .inr (5, [.ref bX, .int 2, .int (-1), .int 0, .int 0, .int 0, .long 0])), (bX, .inl (cB, 2000, .inl (upd (upd (fun _ => 0) (0 : Int32).toNatClampNeg (vp_nar .byte (v >>> ((0 : Int32).toInt64 &&& 63)).toInt32.toInt8.toInt32)) (1 : Int32).toNatClampNeg (vp_nar .byte (v >>> ((8 : Int32).toInt64 &&& 63)).toInt32.toInt8.toInt32))))] H := hP
                have hD : va_D A [(aX, .inr (5, [.ref bX, .int 2, .int (-1), .int 0, .int 0, .int 0, .long 0])), (bX, .inl (cB, 2000, .inl (upd (upd (fun _ => 0) (0 : Int32).toNatClampNeg (vp_nar .byte (v >>> ((0 : Int32).toInt64 &&& 63)).toInt32.toInt8.toInt32)) (1 : Int32).toNatClampNeg (vp_nar .byte (v >>> ((8 : Int32).toInt64 &&& 63)).toInt32.toInt8.toInt32))))] := hD
                refine lv_iinc (v := 2) (lv' := [(4, .int 2), (0, .ref aX), (1, .long v), (3, .int 6)]) hx hb dX5_takeBytes_72 hl (k := 0) rfl (by decide) (by decide) rfl (fun ls hl => ?_)
                refine lv_goto (tgt := 26) hx hb dX5_takeBytes_75 (by decide) ?_
                refine lv_iload hx hb dX5_takeBytes_26 (lv_at hl 0 rfl) ?_
                refine lv_iload_n hx hb dX5_takeBytes_28 rfl (lv_at hl 3 rfl) ?_
                refine lv_icmp_ge (tgt := 78) hx hb dX5_takeBytes_29 (by decide) (fun c_29_91 => ?_) (fun c_29_91 => ?_)
                · exact absurd c_29_91 (by decide)
                · have t_29_91 := c_29_91
                  try simp only [kb_eq0, kb_ne0, lg_cmp_lt, lg_cmp_le, lg_cmp_gt, lg_cmp_ge, lg_cmp_eq] at t_29_91
                  try simp only [Int32.lt_iff_toInt_lt, Int32.le_iff_toInt_le, ← Int32.toInt_inj, Int64.lt_iff_toInt_lt, Int64.le_iff_toInt_le, ← Int64.toInt_inj, Int32.toInt_toInt64, Int32.reduceToInt, Int64.reduceToInt] at t_29_91
                  refine lv_aload_n hx hb dX5_takeBytes_32 rfl (lv_at hl 1 rfl) ?_
                  refine va_get (D := D) (ci := 5) (v := .int 2) (C := RX5) (T := TX5) (N := 7) hx hb hts iX5_takeBytes_X5 hown hK hP 0 rfl rfl 1 (by decide) (hts (.fieldLink RX5 19 "TapeCalculator$Text" "length" "I") (List.mem_of_getElem? (i := 1) rfl)) (fun _ h9 => h9) rfl dX5_takeBytes_33 ?_
                  refine lv_aload_n hx hb dX5_takeBytes_36 rfl (lv_at hl 1 rfl) ?_
                  refine va_get (D := D) (ci := 5) (v := .ref bX) (C := RX5) (T := TX5) (N := 7) hx hb hts iX5_takeBytes_X5 hown hK hP 0 rfl rfl 0 (by decide) (hts (.fieldLink RX5 9 "TapeCalculator$Text" "bytes" "[B") (List.mem_of_getElem? (i := 2) rfl)) (fun _ h9 => h9) rfl dX5_takeBytes_37 ?_
                  refine va_alen hx hb hK hP 1 2 rfl rfl (v := 2000) rfl dX5_takeBytes_40 ?_
                  refine lv_icmp_ge (tgt := 78) hx hb dX5_takeBytes_41 (by decide) (fun c_41_92 => ?_) (fun c_41_92 => ?_)
                  · exact absurd c_41_92 (by decide)
                  · have t_41_92 := c_41_92
                    try simp only [kb_eq0, kb_ne0, lg_cmp_lt, lg_cmp_le, lg_cmp_gt, lg_cmp_ge, lg_cmp_eq] at t_41_92
                    try simp only [Int32.lt_iff_toInt_lt, Int32.le_iff_toInt_le, ← Int32.toInt_inj, Int64.lt_iff_toInt_lt, Int64.le_iff_toInt_le, ← Int64.toInt_inj, Int32.toInt_toInt64, Int32.reduceToInt, Int64.reduceToInt] at t_41_92
                    refine lv_aload_n hx hb dX5_takeBytes_44 rfl (lv_at hl 1 rfl) ?_
                    refine va_get (D := D) (ci := 5) (v := .ref bX) (C := RX5) (T := TX5) (N := 7) hx hb hts iX5_takeBytes_X5 hown hK hP 0 rfl rfl 0 (by decide) (hts (.fieldLink RX5 9 "TapeCalculator$Text" "bytes" "[B") (List.mem_of_getElem? (i := 2) rfl)) (fun _ h9 => h9) rfl dX5_takeBytes_45 ?_
                    refine lv_aload_n hx hb dX5_takeBytes_48 rfl (lv_at hl 1 rfl) ?_
                    refine va_get (D := D) (ci := 5) (v := .int 2) (C := RX5) (T := TX5) (N := 7) hx hb hts iX5_takeBytes_X5 hown hK hP 0 rfl rfl 1 (by decide) (hts (.fieldLink RX5 19 "TapeCalculator$Text" "length" "I") (List.mem_of_getElem? (i := 1) rfl)) (fun _ h9 => h9) rfl dX5_takeBytes_49 ?_
                    refine lv_lload_n hx hb dX5_takeBytes_52 rfl (lv_at hl 2 rfl) ?_
                    refine lv_bipush (v := 8) hx hb dX5_takeBytes_53 (by decide) ?_
                    refine lv_iload hx hb dX5_takeBytes_55 (lv_at hl 0 rfl) ?_
                    refine lv_imul hx hb dX5_takeBytes_57 ?_
                    refine lv_topi (fun x_94 ex_94 => ?_)
                    obtain rfl : x_94 = 16 := ex_94.trans (by decide)
                    refine lv_lshr hx hb dX5_takeBytes_58 rfl ?_
                    refine lv_l2i hx hb dX5_takeBytes_59 rfl ?_
                    refine lv_i2b hx hb dX5_takeBytes_60 rfl ?_
                    refine va_bast hx hb hK hP hD hS 1 2 rfl rfl (vp_in_iff.mpr (by decide)) dX5_takeBytes_61 (fun H locs hP hD hS => ?_)
                    have hP : va_P D vwCl [(aX, .inr (5, [.ref bX, .int 2, .int (-1), .int 0, .int 0, .int 0, .long 0])), (bX, .inl (cB, 2000, .inl (upd (upd (upd (fun _ => 0) (0 : Int32).toNatClampNeg (vp_nar .byte (v >>> ((0 : Int32).toInt64 &&& 63)).toInt32.toInt8.toInt32)) (1 : Int32).toNatClampNeg (vp_nar .byte (v >>> ((8 : Int32).toInt64 &&& 63)).toInt32.toInt8.toInt32)) (2 : Int32).toNatClampNeg (vp_nar .byte (v >>> ((16 : Int32).toInt64 &&& 63)).toInt32.toInt8.toInt32))))] H := hP
                    have hD : va_D A [(aX, .inr (5, [.ref bX, .int 2, .int (-1), .int 0, .int 0, .int 0, .long 0])), (bX, .inl (cB, 2000, .inl (upd (upd (upd (fun _ => 0) (0 : Int32).toNatClampNeg (vp_nar .byte (v >>> ((0 : Int32).toInt64 &&& 63)).toInt32.toInt8.toInt32)) (1 : Int32).toNatClampNeg (vp_nar .byte (v >>> ((8 : Int32).toInt64 &&& 63)).toInt32.toInt8.toInt32)) (2 : Int32).toNatClampNeg (vp_nar .byte (v >>> ((16 : Int32).toInt64 &&& 63)).toInt32.toInt8.toInt32))))] := hD
                    refine lv_aload_n hx hb dX5_takeBytes_62 rfl (lv_at hl 1 rfl) ?_
                    refine lv_dup hx hb dX5_takeBytes_63 rfl ?_
                    refine va_get (D := D) (ci := 5) (v := .int 2) (C := RX5) (T := TX5) (N := 7) hx hb hts iX5_takeBytes_X5 hown hK hP 0 rfl rfl 1 (by decide) (hts (.fieldLink RX5 19 "TapeCalculator$Text" "length" "I") (List.mem_of_getElem? (i := 1) rfl)) (fun _ h9 => h9) rfl dX5_takeBytes_64 ?_
                    refine lv_iconst (v := 1) hx hb dX5_takeBytes_67 (by decide) ?_
                    refine lv_iadd hx hb dX5_takeBytes_68 ?_
                    refine lv_topi (fun x_95 ex_95 => ?_)
                    obtain rfl : x_95 = 3 := ex_95.trans (by decide)
                    refine va_put (D := D) (ci := 5) (v := .int 3) (ty := .int) (C := RX5) (T := TX5) (N := 7) hx hb hts iX5_takeBytes_X5 tyX5 tyX5_ok nmX5 hown hK hP hD hS 0 rfl rfl 1 (by decide) (hts (.fieldLink RX5 19 "TapeCalculator$Text" "length" "I") (List.mem_of_getElem? (i := 1) rfl)) (fun _ h9 => h9) rfl (by decide +kernel) rfl rfl (Nat.le_of_ble_eq_true rfl) dX5_takeBytes_69 (fun H locs hP hD hS => ?_)
                    have hP : va_P D vwCl [(aX, .inr (5, [.ref bX, .int 3, .int (-1), .int 0, .int 0, .int 0, .long 0])), (bX, .inl (cB, 2000, .inl (upd (upd (upd (fun _ => 0) (0 : Int32).toNatClampNeg (vp_nar .byte (v >>> ((0 : Int32).toInt64 &&& 63)).toInt32.toInt8.toInt32)) (1 : Int32).toNatClampNeg (vp_nar .byte (v >>> ((8 : Int32).toInt64 &&& 63)).toInt32.toInt8.toInt32)) (2 : Int32).toNatClampNeg (vp_nar .byte (v >>> ((16 : Int32).toInt64 &&& 63)).toInt32.toInt8.toInt32))))] H := hP
                    have hD : va_D A [(aX, .inr (5, [.ref bX, .int 3, .int (-1), .int 0, .int 0, .int 0, .long 0])), (bX, .inl (cB, 2000, .inl (upd (upd (upd (fun _ => 0) (0 : Int32).toNatClampNeg (vp_nar .byte (v >>> ((0 : Int32).toInt64 &&& 63)).toInt32.toInt8.toInt32)) (1 : Int32).toNatClampNeg (vp_nar .byte (v >>> ((8 : Int32).toInt64 &&& 63)).toInt32.toInt8.toInt32)) (2 : Int32).toNatClampNeg (vp_nar .byte (v >>> ((16 : Int32).toInt64 &&& 63)).toInt32.toInt8.toInt32))))] := hD
                    refine lv_iinc (v := 3) (lv' := [(4, .int 3), (0, .ref aX), (1, .long v), (3, .int 6)]) hx hb dX5_takeBytes_72 hl (k := 0) rfl (by decide) (by decide) rfl (fun ls hl => ?_)
                    refine lv_goto (tgt := 26) hx hb dX5_takeBytes_75 (by decide) ?_
                    refine lv_iload hx hb dX5_takeBytes_26 (lv_at hl 0 rfl) ?_
                    refine lv_iload_n hx hb dX5_takeBytes_28 rfl (lv_at hl 3 rfl) ?_
                    refine lv_icmp_ge (tgt := 78) hx hb dX5_takeBytes_29 (by decide) (fun c_29_95 => ?_) (fun c_29_95 => ?_)
                    · exact absurd c_29_95 (by decide)
                    · have t_29_95 := c_29_95
                      try simp only [kb_eq0, kb_ne0, lg_cmp_lt, lg_cmp_le, lg_cmp_gt, lg_cmp_ge, lg_cmp_eq] at t_29_95
                      try simp only [Int32.lt_iff_toInt_lt, Int32.le_iff_toInt_le, ← Int32.toInt_inj, Int64.lt_iff_toInt_lt, Int64.le_iff_toInt_le, ← Int64.toInt_inj, Int32.toInt_toInt64, Int32.reduceToInt, Int64.reduceToInt] at t_29_95
                      refine lv_aload_n hx hb dX5_takeBytes_32 rfl (lv_at hl 1 rfl) ?_
                      refine va_get (D := D) (ci := 5) (v := .int 3) (C := RX5) (T := TX5) (N := 7) hx hb hts iX5_takeBytes_X5 hown hK hP 0 rfl rfl 1 (by decide) (hts (.fieldLink RX5 19 "TapeCalculator$Text" "length" "I") (List.mem_of_getElem? (i := 1) rfl)) (fun _ h9 => h9) rfl dX5_takeBytes_33 ?_
                      refine lv_aload_n hx hb dX5_takeBytes_36 rfl (lv_at hl 1 rfl) ?_
                      refine va_get (D := D) (ci := 5) (v := .ref bX) (C := RX5) (T := TX5) (N := 7) hx hb hts iX5_takeBytes_X5 hown hK hP 0 rfl rfl 0 (by decide) (hts (.fieldLink RX5 9 "TapeCalculator$Text" "bytes" "[B") (List.mem_of_getElem? (i := 2) rfl)) (fun _ h9 => h9) rfl dX5_takeBytes_37 ?_
                      refine va_alen hx hb hK hP 1 2 rfl rfl (v := 2000) rfl dX5_takeBytes_40 ?_
                      refine lv_icmp_ge (tgt := 78) hx hb dX5_takeBytes_41 (by decide) (fun c_41_96 => ?_) (fun c_41_96 => ?_)
                      · exact absurd c_41_96 (by decide)
                      · have t_41_96 := c_41_96
                        try simp only [kb_eq0, kb_ne0, lg_cmp_lt, lg_cmp_le, lg_cmp_gt, lg_cmp_ge, lg_cmp_eq] at t_41_96
                        try simp only [Int32.lt_iff_toInt_lt, Int32.le_iff_toInt_le, ← Int32.toInt_inj, Int64.lt_iff_toInt_lt, Int64.le_iff_toInt_le, ← Int64.toInt_inj, Int32.toInt_toInt64, Int32.reduceToInt, Int64.reduceToInt] at t_41_96
                        refine lv_aload_n hx hb dX5_takeBytes_44 rfl (lv_at hl 1 rfl) ?_
                        refine va_get (D := D) (ci := 5) (v := .ref bX) (C := RX5) (T := TX5) (N := 7) hx hb hts iX5_takeBytes_X5 hown hK hP 0 rfl rfl 0 (by decide) (hts (.fieldLink RX5 9 "TapeCalculator$Text" "bytes" "[B") (List.mem_of_getElem? (i := 2) rfl)) (fun _ h9 => h9) rfl dX5_takeBytes_45 ?_
                        refine lv_aload_n hx hb dX5_takeBytes_48 rfl (lv_at hl 1 rfl) ?_
                        refine va_get (D := D) (ci := 5) (v := .int 3) (C := RX5) (T := TX5) (N := 7) hx hb hts iX5_takeBytes_X5 hown hK hP 0 rfl rfl 1 (by decide) (hts (.fieldLink RX5 19 "TapeCalculator$Text" "length" "I") (List.mem_of_getElem? (i := 1) rfl)) (fun _ h9 => h9) rfl dX5_takeBytes_49 ?_
                        refine lv_lload_n hx hb dX5_takeBytes_52 rfl (lv_at hl 2 rfl) ?_
                        refine lv_bipush (v := 8) hx hb dX5_takeBytes_53 (by decide) ?_
                        refine lv_iload hx hb dX5_takeBytes_55 (lv_at hl 0 rfl) ?_
                        refine lv_imul hx hb dX5_takeBytes_57 ?_
                        refine lv_topi (fun x_98 ex_98 => ?_)
                        obtain rfl : x_98 = 24 := ex_98.trans (by decide)
                        refine lv_lshr hx hb dX5_takeBytes_58 rfl ?_
                        refine lv_l2i hx hb dX5_takeBytes_59 rfl ?_
                        refine lv_i2b hx hb dX5_takeBytes_60 rfl ?_
                        refine va_bast hx hb hK hP hD hS 1 2 rfl rfl (vp_in_iff.mpr (by decide)) dX5_takeBytes_61 (fun H locs hP hD hS => ?_)
                        have hP : va_P D vwCl [(aX, .inr (5, [.ref bX, .int 3, .int (-1), .int 0, .int 0, .int 0, .long 0])), (bX, .inl (cB, 2000, .inl (upd (upd (upd (upd (fun _ => 0) (0 : Int32).toNatClampNeg (vp_nar .byte (v >>> ((0 : Int32).toInt64 &&& 63)).toInt32.toInt8.toInt32)) (1 : Int32).toNatClampNeg (vp_nar .byte (v >>> ((8 : Int32).toInt64 &&& 63)).toInt32.toInt8.toInt32)) (2 : Int32).toNatClampNeg (vp_nar .byte (v >>> ((16 : Int32).toInt64 &&& 63)).toInt32.toInt8.toInt32)) (3 : Int32).toNatClampNeg (vp_nar .byte (v >>> ((24 : Int32).toInt64 &&& 63)).toInt32.toInt8.toInt32))))] H := hP
                        have hD : va_D A [(aX, .inr (5, [.ref bX, .int 3, .int (-1), .int 0, .int 0, .int 0, .long 0])), (bX, .inl (cB, 2000, .inl (upd (upd (upd (upd (fun _ => 0) (0 : Int32).toNatClampNeg (vp_nar .byte (v >>> ((0 : Int32).toInt64 &&& 63)).toInt32.toInt8.toInt32)) (1 : Int32).toNatClampNeg (vp_nar .byte (v >>> ((8 : Int32).toInt64 &&& 63)).toInt32.toInt8.toInt32)) (2 : Int32).toNatClampNeg (vp_nar .byte (v >>> ((16 : Int32).toInt64 &&& 63)).toInt32.toInt8.toInt32)) (3 : Int32).toNatClampNeg (vp_nar .byte (v >>> ((24 : Int32).toInt64 &&& 63)).toInt32.toInt8.toInt32))))] := hD
                        refine lv_aload_n hx hb dX5_takeBytes_62 rfl (lv_at hl 1 rfl) ?_
                        refine lv_dup hx hb dX5_takeBytes_63 rfl ?_
                        refine va_get (D := D) (ci := 5) (v := .int 3) (C := RX5) (T := TX5) (N := 7) hx hb hts iX5_takeBytes_X5 hown hK hP 0 rfl rfl 1 (by decide) (hts (.fieldLink RX5 19 "TapeCalculator$Text" "length" "I") (List.mem_of_getElem? (i := 1) rfl)) (fun _ h9 => h9) rfl dX5_takeBytes_64 ?_
                        refine lv_iconst (v := 1) hx hb dX5_takeBytes_67 (by decide) ?_
                        refine lv_iadd hx hb dX5_takeBytes_68 ?_
                        refine lv_topi (fun x_99 ex_99 => ?_)
                        obtain rfl : x_99 = 4 := ex_99.trans (by decide)
                        refine va_put (D := D) (ci := 5) (v := .int 4) (ty := .int) (C := RX5) (T := TX5) (N := 7) hx hb hts iX5_takeBytes_X5 tyX5 tyX5_ok nmX5 hown hK hP hD hS 0 rfl rfl 1 (by decide) (hts (.fieldLink RX5 19 "TapeCalculator$Text" "length" "I") (List.mem_of_getElem? (i := 1) rfl)) (fun _ h9 => h9) rfl (by decide +kernel) rfl rfl (Nat.le_of_ble_eq_true rfl) dX5_takeBytes_69 (fun H locs hP hD hS => ?_)
                        have hP : va_P D vwCl [(aX, .inr (5, [.ref bX, .int 4, .int (-1), .int 0, .int 0, .int 0, .long 0])), (bX, .inl (cB, 2000, .inl (upd (upd (upd (upd (fun _ => 0) (0 : Int32).toNatClampNeg (vp_nar .byte (v >>> ((0 : Int32).toInt64 &&& 63)).toInt32.toInt8.toInt32)) (1 : Int32).toNatClampNeg (vp_nar .byte (v >>> ((8 : Int32).toInt64 &&& 63)).toInt32.toInt8.toInt32)) (2 : Int32).toNatClampNeg (vp_nar .byte (v >>> ((16 : Int32).toInt64 &&& 63)).toInt32.toInt8.toInt32)) (3 : Int32).toNatClampNeg (vp_nar .byte (v >>> ((24 : Int32).toInt64 &&& 63)).toInt32.toInt8.toInt32))))] H := hP
                        have hD : va_D A [(aX, .inr (5, [.ref bX, .int 4, .int (-1), .int 0, .int 0, .int 0, .long 0])), (bX, .inl (cB, 2000, .inl (upd (upd (upd (upd (fun _ => 0) (0 : Int32).toNatClampNeg (vp_nar .byte (v >>> ((0 : Int32).toInt64 &&& 63)).toInt32.toInt8.toInt32)) (1 : Int32).toNatClampNeg (vp_nar .byte (v >>> ((8 : Int32).toInt64 &&& 63)).toInt32.toInt8.toInt32)) (2 : Int32).toNatClampNeg (vp_nar .byte (v >>> ((16 : Int32).toInt64 &&& 63)).toInt32.toInt8.toInt32)) (3 : Int32).toNatClampNeg (vp_nar .byte (v >>> ((24 : Int32).toInt64 &&& 63)).toInt32.toInt8.toInt32))))] := hD
                        refine lv_iinc (v := 4) (lv' := [(4, .int 4), (0, .ref aX), (1, .long v), (3, .int 6)]) hx hb dX5_takeBytes_72 hl (k := 0) rfl (by decide) (by decide) rfl (fun ls hl => ?_)
                        refine lv_goto (tgt := 26) hx hb dX5_takeBytes_75 (by decide) ?_
                        refine lv_iload hx hb dX5_takeBytes_26 (lv_at hl 0 rfl) ?_
                        refine lv_iload_n hx hb dX5_takeBytes_28 rfl (lv_at hl 3 rfl) ?_
                        refine lv_icmp_ge (tgt := 78) hx hb dX5_takeBytes_29 (by decide) (fun c_29_99 => ?_) (fun c_29_99 => ?_)
                        · exact absurd c_29_99 (by decide)
                        · have t_29_99 := c_29_99
                          try simp only [kb_eq0, kb_ne0, lg_cmp_lt, lg_cmp_le, lg_cmp_gt, lg_cmp_ge, lg_cmp_eq] at t_29_99
                          try simp only [Int32.lt_iff_toInt_lt, Int32.le_iff_toInt_le, ← Int32.toInt_inj, Int64.lt_iff_toInt_lt, Int64.le_iff_toInt_le, ← Int64.toInt_inj, Int32.toInt_toInt64, Int32.reduceToInt, Int64.reduceToInt] at t_29_99
                          refine lv_aload_n hx hb dX5_takeBytes_32 rfl (lv_at hl 1 rfl) ?_
                          refine va_get (D := D) (ci := 5) (v := .int 4) (C := RX5) (T := TX5) (N := 7) hx hb hts iX5_takeBytes_X5 hown hK hP 0 rfl rfl 1 (by decide) (hts (.fieldLink RX5 19 "TapeCalculator$Text" "length" "I") (List.mem_of_getElem? (i := 1) rfl)) (fun _ h9 => h9) rfl dX5_takeBytes_33 ?_
                          refine lv_aload_n hx hb dX5_takeBytes_36 rfl (lv_at hl 1 rfl) ?_
                          refine va_get (D := D) (ci := 5) (v := .ref bX) (C := RX5) (T := TX5) (N := 7) hx hb hts iX5_takeBytes_X5 hown hK hP 0 rfl rfl 0 (by decide) (hts (.fieldLink RX5 9 "TapeCalculator$Text" "bytes" "[B") (List.mem_of_getElem? (i := 2) rfl)) (fun _ h9 => h9) rfl dX5_takeBytes_37 ?_
                          refine va_alen hx hb hK hP 1 2 rfl rfl (v := 2000) rfl dX5_takeBytes_40 ?_
                          refine lv_icmp_ge (tgt := 78) hx hb dX5_takeBytes_41 (by decide) (fun c_41_100 => ?_) (fun c_41_100 => ?_)
                          · exact absurd c_41_100 (by decide)
                          · have t_41_100 := c_41_100
                            try simp only [kb_eq0, kb_ne0, lg_cmp_lt, lg_cmp_le, lg_cmp_gt, lg_cmp_ge, lg_cmp_eq] at t_41_100
                            try simp only [Int32.lt_iff_toInt_lt, Int32.le_iff_toInt_le, ← Int32.toInt_inj, Int64.lt_iff_toInt_lt, Int64.le_iff_toInt_le, ← Int64.toInt_inj, Int32.toInt_toInt64, Int32.reduceToInt, Int64.reduceToInt] at t_41_100
                            refine lv_aload_n hx hb dX5_takeBytes_44 rfl (lv_at hl 1 rfl) ?_
                            refine va_get (D := D) (ci := 5) (v := .ref bX) (C := RX5) (T := TX5) (N := 7) hx hb hts iX5_takeBytes_X5 hown hK hP 0 rfl rfl 0 (by decide) (hts (.fieldLink RX5 9 "TapeCalculator$Text" "bytes" "[B") (List.mem_of_getElem? (i := 2) rfl)) (fun _ h9 => h9) rfl dX5_takeBytes_45 ?_
                            refine lv_aload_n hx hb dX5_takeBytes_48 rfl (lv_at hl 1 rfl) ?_
                            refine va_get (D := D) (ci := 5) (v := .int 4) (C := RX5) (T := TX5) (N := 7) hx hb hts iX5_takeBytes_X5 hown hK hP 0 rfl rfl 1 (by decide) (hts (.fieldLink RX5 19 "TapeCalculator$Text" "length" "I") (List.mem_of_getElem? (i := 1) rfl)) (fun _ h9 => h9) rfl dX5_takeBytes_49 ?_
                            refine lv_lload_n hx hb dX5_takeBytes_52 rfl (lv_at hl 2 rfl) ?_
                            refine lv_bipush (v := 8) hx hb dX5_takeBytes_53 (by decide) ?_
                            refine lv_iload hx hb dX5_takeBytes_55 (lv_at hl 0 rfl) ?_
                            refine lv_imul hx hb dX5_takeBytes_57 ?_
                            refine lv_topi (fun x_102 ex_102 => ?_)
                            obtain rfl : x_102 = 32 := ex_102.trans (by decide)
                            refine lv_lshr hx hb dX5_takeBytes_58 rfl ?_
                            refine lv_l2i hx hb dX5_takeBytes_59 rfl ?_
                            refine lv_i2b hx hb dX5_takeBytes_60 rfl ?_
                            refine va_bast hx hb hK hP hD hS 1 2 rfl rfl (vp_in_iff.mpr (by decide)) dX5_takeBytes_61 (fun H locs hP hD hS => ?_)
                            have hP : va_P D vwCl [(aX, .inr (5, [.ref bX, .int 4, .int (-1), .int 0, .int 0, .int 0, .long 0])), (bX, .inl (cB, 2000, .inl (upd (upd (upd (upd (upd (fun _ => 0) (0 : Int32).toNatClampNeg (vp_nar .byte (v >>> ((0 : Int32).toInt64 &&& 63)).toInt32.toInt8.toInt32)) (1 : Int32).toNatClampNeg (vp_nar .byte (v >>> ((8 : Int32).toInt64 &&& 63)).toInt32.toInt8.toInt32)) (2 : Int32).toNatClampNeg (vp_nar .byte (v >>> ((16 : Int32).toInt64 &&& 63)).toInt32.toInt8.toInt32)) (3 : Int32).toNatClampNeg (vp_nar .byte (v >>> ((24 : Int32).toInt64 &&& 63)).toInt32.toInt8.toInt32)) (4 : Int32).toNatClampNeg (vp_nar .byte (v >>> ((32 : Int32).toInt64 &&& 63)).toInt32.toInt8.toInt32))))] H := hP
                            have hD : va_D A [(aX, .inr (5, [.ref bX, .int 4, .int (-1), .int 0, .int 0, .int 0, .long 0])), (bX, .inl (cB, 2000, .inl (upd (upd (upd (upd (upd (fun _ => 0) (0 : Int32).toNatClampNeg (vp_nar .byte (v >>> ((0 : Int32).toInt64 &&& 63)).toInt32.toInt8.toInt32)) (1 : Int32).toNatClampNeg (vp_nar .byte (v >>> ((8 : Int32).toInt64 &&& 63)).toInt32.toInt8.toInt32)) (2 : Int32).toNatClampNeg (vp_nar .byte (v >>> ((16 : Int32).toInt64 &&& 63)).toInt32.toInt8.toInt32)) (3 : Int32).toNatClampNeg (vp_nar .byte (v >>> ((24 : Int32).toInt64 &&& 63)).toInt32.toInt8.toInt32)) (4 : Int32).toNatClampNeg (vp_nar .byte (v >>> ((32 : Int32).toInt64 &&& 63)).toInt32.toInt8.toInt32))))] := hD
                            refine lv_aload_n hx hb dX5_takeBytes_62 rfl (lv_at hl 1 rfl) ?_
                            refine lv_dup hx hb dX5_takeBytes_63 rfl ?_
                            refine va_get (D := D) (ci := 5) (v := .int 4) (C := RX5) (T := TX5) (N := 7) hx hb hts iX5_takeBytes_X5 hown hK hP 0 rfl rfl 1 (by decide) (hts (.fieldLink RX5 19 "TapeCalculator$Text" "length" "I") (List.mem_of_getElem? (i := 1) rfl)) (fun _ h9 => h9) rfl dX5_takeBytes_64 ?_
                            refine lv_iconst (v := 1) hx hb dX5_takeBytes_67 (by decide) ?_
                            refine lv_iadd hx hb dX5_takeBytes_68 ?_
                            refine lv_topi (fun x_103 ex_103 => ?_)
                            obtain rfl : x_103 = 5 := ex_103.trans (by decide)
                            refine va_put (D := D) (ci := 5) (v := .int 5) (ty := .int) (C := RX5) (T := TX5) (N := 7) hx hb hts iX5_takeBytes_X5 tyX5 tyX5_ok nmX5 hown hK hP hD hS 0 rfl rfl 1 (by decide) (hts (.fieldLink RX5 19 "TapeCalculator$Text" "length" "I") (List.mem_of_getElem? (i := 1) rfl)) (fun _ h9 => h9) rfl (by decide +kernel) rfl rfl (Nat.le_of_ble_eq_true rfl) dX5_takeBytes_69 (fun H locs hP hD hS => ?_)
                            have hP : va_P D vwCl [(aX, .inr (5, [.ref bX, .int 5, .int (-1), .int 0, .int 0, .int 0, .long 0])), (bX, .inl (cB, 2000, .inl (upd (upd (upd (upd (upd (fun _ => 0) (0 : Int32).toNatClampNeg (vp_nar .byte (v >>> ((0 : Int32).toInt64 &&& 63)).toInt32.toInt8.toInt32)) (1 : Int32).toNatClampNeg (vp_nar .byte (v >>> ((8 : Int32).toInt64 &&& 63)).toInt32.toInt8.toInt32)) (2 : Int32).toNatClampNeg (vp_nar .byte (v >>> ((16 : Int32).toInt64 &&& 63)).toInt32.toInt8.toInt32)) (3 : Int32).toNatClampNeg (vp_nar .byte (v >>> ((24 : Int32).toInt64 &&& 63)).toInt32.toInt8.toInt32)) (4 : Int32).toNatClampNeg (vp_nar .byte (v >>> ((32 : Int32).toInt64 &&& 63)).toInt32.toInt8.toInt32))))] H := hP
                            have hD : va_D A [(aX, .inr (5, [.ref bX, .int 5, .int (-1), .int 0, .int 0, .int 0, .long 0])), (bX, .inl (cB, 2000, .inl (upd (upd (upd (upd (upd (fun _ => 0) (0 : Int32).toNatClampNeg (vp_nar .byte (v >>> ((0 : Int32).toInt64 &&& 63)).toInt32.toInt8.toInt32)) (1 : Int32).toNatClampNeg (vp_nar .byte (v >>> ((8 : Int32).toInt64 &&& 63)).toInt32.toInt8.toInt32)) (2 : Int32).toNatClampNeg (vp_nar .byte (v >>> ((16 : Int32).toInt64 &&& 63)).toInt32.toInt8.toInt32)) (3 : Int32).toNatClampNeg (vp_nar .byte (v >>> ((24 : Int32).toInt64 &&& 63)).toInt32.toInt8.toInt32)) (4 : Int32).toNatClampNeg (vp_nar .byte (v >>> ((32 : Int32).toInt64 &&& 63)).toInt32.toInt8.toInt32))))] := hD
                            refine lv_iinc (v := 5) (lv' := [(4, .int 5), (0, .ref aX), (1, .long v), (3, .int 6)]) hx hb dX5_takeBytes_72 hl (k := 0) rfl (by decide) (by decide) rfl (fun ls hl => ?_)
                            refine lv_goto (tgt := 26) hx hb dX5_takeBytes_75 (by decide) ?_
                            refine lv_iload hx hb dX5_takeBytes_26 (lv_at hl 0 rfl) ?_
                            refine lv_iload_n hx hb dX5_takeBytes_28 rfl (lv_at hl 3 rfl) ?_
                            refine lv_icmp_ge (tgt := 78) hx hb dX5_takeBytes_29 (by decide) (fun c_29_103 => ?_) (fun c_29_103 => ?_)
                            · exact absurd c_29_103 (by decide)
                            · have t_29_103 := c_29_103
                              try simp only [kb_eq0, kb_ne0, lg_cmp_lt, lg_cmp_le, lg_cmp_gt, lg_cmp_ge, lg_cmp_eq] at t_29_103
                              try simp only [Int32.lt_iff_toInt_lt, Int32.le_iff_toInt_le, ← Int32.toInt_inj, Int64.lt_iff_toInt_lt, Int64.le_iff_toInt_le, ← Int64.toInt_inj, Int32.toInt_toInt64, Int32.reduceToInt, Int64.reduceToInt] at t_29_103
                              refine lv_aload_n hx hb dX5_takeBytes_32 rfl (lv_at hl 1 rfl) ?_
                              refine va_get (D := D) (ci := 5) (v := .int 5) (C := RX5) (T := TX5) (N := 7) hx hb hts iX5_takeBytes_X5 hown hK hP 0 rfl rfl 1 (by decide) (hts (.fieldLink RX5 19 "TapeCalculator$Text" "length" "I") (List.mem_of_getElem? (i := 1) rfl)) (fun _ h9 => h9) rfl dX5_takeBytes_33 ?_
                              refine lv_aload_n hx hb dX5_takeBytes_36 rfl (lv_at hl 1 rfl) ?_
                              refine va_get (D := D) (ci := 5) (v := .ref bX) (C := RX5) (T := TX5) (N := 7) hx hb hts iX5_takeBytes_X5 hown hK hP 0 rfl rfl 0 (by decide) (hts (.fieldLink RX5 9 "TapeCalculator$Text" "bytes" "[B") (List.mem_of_getElem? (i := 2) rfl)) (fun _ h9 => h9) rfl dX5_takeBytes_37 ?_
                              refine va_alen hx hb hK hP 1 2 rfl rfl (v := 2000) rfl dX5_takeBytes_40 ?_
                              refine lv_icmp_ge (tgt := 78) hx hb dX5_takeBytes_41 (by decide) (fun c_41_104 => ?_) (fun c_41_104 => ?_)
                              · exact absurd c_41_104 (by decide)
                              · have t_41_104 := c_41_104
                                try simp only [kb_eq0, kb_ne0, lg_cmp_lt, lg_cmp_le, lg_cmp_gt, lg_cmp_ge, lg_cmp_eq] at t_41_104
                                try simp only [Int32.lt_iff_toInt_lt, Int32.le_iff_toInt_le, ← Int32.toInt_inj, Int64.lt_iff_toInt_lt, Int64.le_iff_toInt_le, ← Int64.toInt_inj, Int32.toInt_toInt64, Int32.reduceToInt, Int64.reduceToInt] at t_41_104
                                refine lv_aload_n hx hb dX5_takeBytes_44 rfl (lv_at hl 1 rfl) ?_
                                refine va_get (D := D) (ci := 5) (v := .ref bX) (C := RX5) (T := TX5) (N := 7) hx hb hts iX5_takeBytes_X5 hown hK hP 0 rfl rfl 0 (by decide) (hts (.fieldLink RX5 9 "TapeCalculator$Text" "bytes" "[B") (List.mem_of_getElem? (i := 2) rfl)) (fun _ h9 => h9) rfl dX5_takeBytes_45 ?_
                                refine lv_aload_n hx hb dX5_takeBytes_48 rfl (lv_at hl 1 rfl) ?_
                                refine va_get (D := D) (ci := 5) (v := .int 5) (C := RX5) (T := TX5) (N := 7) hx hb hts iX5_takeBytes_X5 hown hK hP 0 rfl rfl 1 (by decide) (hts (.fieldLink RX5 19 "TapeCalculator$Text" "length" "I") (List.mem_of_getElem? (i := 1) rfl)) (fun _ h9 => h9) rfl dX5_takeBytes_49 ?_
                                refine lv_lload_n hx hb dX5_takeBytes_52 rfl (lv_at hl 2 rfl) ?_
                                refine lv_bipush (v := 8) hx hb dX5_takeBytes_53 (by decide) ?_
                                refine lv_iload hx hb dX5_takeBytes_55 (lv_at hl 0 rfl) ?_
                                refine lv_imul hx hb dX5_takeBytes_57 ?_
                                refine lv_topi (fun x_106 ex_106 => ?_)
                                obtain rfl : x_106 = 40 := ex_106.trans (by decide)
                                refine lv_lshr hx hb dX5_takeBytes_58 rfl ?_
                                refine lv_l2i hx hb dX5_takeBytes_59 rfl ?_
                                refine lv_i2b hx hb dX5_takeBytes_60 rfl ?_
                                refine va_bast hx hb hK hP hD hS 1 2 rfl rfl (vp_in_iff.mpr (by decide)) dX5_takeBytes_61 (fun H locs hP hD hS => ?_)
                                have hP : va_P D vwCl [(aX, .inr (5, [.ref bX, .int 5, .int (-1), .int 0, .int 0, .int 0, .long 0])), (bX, .inl (cB, 2000, .inl (upd (upd (upd (upd (upd (upd (fun _ => 0) (0 : Int32).toNatClampNeg (vp_nar .byte (v >>> ((0 : Int32).toInt64 &&& 63)).toInt32.toInt8.toInt32)) (1 : Int32).toNatClampNeg (vp_nar .byte (v >>> ((8 : Int32).toInt64 &&& 63)).toInt32.toInt8.toInt32)) (2 : Int32).toNatClampNeg (vp_nar .byte (v >>> ((16 : Int32).toInt64 &&& 63)).toInt32.toInt8.toInt32)) (3 : Int32).toNatClampNeg (vp_nar .byte (v >>> ((24 : Int32).toInt64 &&& 63)).toInt32.toInt8.toInt32)) (4 : Int32).toNatClampNeg (vp_nar .byte (v >>> ((32 : Int32).toInt64 &&& 63)).toInt32.toInt8.toInt32)) (5 : Int32).toNatClampNeg (vp_nar .byte (v >>> ((40 : Int32).toInt64 &&& 63)).toInt32.toInt8.toInt32))))] H := hP
                                have hD : va_D A [(aX, .inr (5, [.ref bX, .int 5, .int (-1), .int 0, .int 0, .int 0, .long 0])), (bX, .inl (cB, 2000, .inl (upd (upd (upd (upd (upd (upd (fun _ => 0) (0 : Int32).toNatClampNeg (vp_nar .byte (v >>> ((0 : Int32).toInt64 &&& 63)).toInt32.toInt8.toInt32)) (1 : Int32).toNatClampNeg (vp_nar .byte (v >>> ((8 : Int32).toInt64 &&& 63)).toInt32.toInt8.toInt32)) (2 : Int32).toNatClampNeg (vp_nar .byte (v >>> ((16 : Int32).toInt64 &&& 63)).toInt32.toInt8.toInt32)) (3 : Int32).toNatClampNeg (vp_nar .byte (v >>> ((24 : Int32).toInt64 &&& 63)).toInt32.toInt8.toInt32)) (4 : Int32).toNatClampNeg (vp_nar .byte (v >>> ((32 : Int32).toInt64 &&& 63)).toInt32.toInt8.toInt32)) (5 : Int32).toNatClampNeg (vp_nar .byte (v >>> ((40 : Int32).toInt64 &&& 63)).toInt32.toInt8.toInt32))))] := hD
                                refine lv_aload_n hx hb dX5_takeBytes_62 rfl (lv_at hl 1 rfl) ?_
                                refine lv_dup hx hb dX5_takeBytes_63 rfl ?_
                                refine va_get (D := D) (ci := 5) (v := .int 5) (C := RX5) (T := TX5) (N := 7) hx hb hts iX5_takeBytes_X5 hown hK hP 0 rfl rfl 1 (by decide) (hts (.fieldLink RX5 19 "TapeCalculator$Text" "length" "I") (List.mem_of_getElem? (i := 1) rfl)) (fun _ h9 => h9) rfl dX5_takeBytes_64 ?_
                                refine lv_iconst (v := 1) hx hb dX5_takeBytes_67 (by decide) ?_
                                refine lv_iadd hx hb dX5_takeBytes_68 ?_
                                refine lv_topi (fun x_107 ex_107 => ?_)
                                obtain rfl : x_107 = 6 := ex_107.trans (by decide)
                                refine va_put (D := D) (ci := 5) (v := .int 6) (ty := .int) (C := RX5) (T := TX5) (N := 7) hx hb hts iX5_takeBytes_X5 tyX5 tyX5_ok nmX5 hown hK hP hD hS 0 rfl rfl 1 (by decide) (hts (.fieldLink RX5 19 "TapeCalculator$Text" "length" "I") (List.mem_of_getElem? (i := 1) rfl)) (fun _ h9 => h9) rfl (by decide +kernel) rfl rfl (Nat.le_of_ble_eq_true rfl) dX5_takeBytes_69 (fun H locs hP hD hS => ?_)
                                have hP : va_P D vwCl [(aX, .inr (5, [.ref bX, .int 6, .int (-1), .int 0, .int 0, .int 0, .long 0])), (bX, .inl (cB, 2000, .inl (upd (upd (upd (upd (upd (upd (fun _ => 0) (0 : Int32).toNatClampNeg (vp_nar .byte (v >>> ((0 : Int32).toInt64 &&& 63)).toInt32.toInt8.toInt32)) (1 : Int32).toNatClampNeg (vp_nar .byte (v >>> ((8 : Int32).toInt64 &&& 63)).toInt32.toInt8.toInt32)) (2 : Int32).toNatClampNeg (vp_nar .byte (v >>> ((16 : Int32).toInt64 &&& 63)).toInt32.toInt8.toInt32)) (3 : Int32).toNatClampNeg (vp_nar .byte (v >>> ((24 : Int32).toInt64 &&& 63)).toInt32.toInt8.toInt32)) (4 : Int32).toNatClampNeg (vp_nar .byte (v >>> ((32 : Int32).toInt64 &&& 63)).toInt32.toInt8.toInt32)) (5 : Int32).toNatClampNeg (vp_nar .byte (v >>> ((40 : Int32).toInt64 &&& 63)).toInt32.toInt8.toInt32))))] H := hP
                                have hD : va_D A [(aX, .inr (5, [.ref bX, .int 6, .int (-1), .int 0, .int 0, .int 0, .long 0])), (bX, .inl (cB, 2000, .inl (upd (upd (upd (upd (upd (upd (fun _ => 0) (0 : Int32).toNatClampNeg (vp_nar .byte (v >>> ((0 : Int32).toInt64 &&& 63)).toInt32.toInt8.toInt32)) (1 : Int32).toNatClampNeg (vp_nar .byte (v >>> ((8 : Int32).toInt64 &&& 63)).toInt32.toInt8.toInt32)) (2 : Int32).toNatClampNeg (vp_nar .byte (v >>> ((16 : Int32).toInt64 &&& 63)).toInt32.toInt8.toInt32)) (3 : Int32).toNatClampNeg (vp_nar .byte (v >>> ((24 : Int32).toInt64 &&& 63)).toInt32.toInt8.toInt32)) (4 : Int32).toNatClampNeg (vp_nar .byte (v >>> ((32 : Int32).toInt64 &&& 63)).toInt32.toInt8.toInt32)) (5 : Int32).toNatClampNeg (vp_nar .byte (v >>> ((40 : Int32).toInt64 &&& 63)).toInt32.toInt8.toInt32))))] := hD
                                refine lv_iinc (v := 6) (lv' := [(4, .int 6), (0, .ref aX), (1, .long v), (3, .int 6)]) hx hb dX5_takeBytes_72 hl (k := 0) rfl (by decide) (by decide) rfl (fun ls hl => ?_)
                                refine lv_goto (tgt := 26) hx hb dX5_takeBytes_75 (by decide) ?_
                                refine lv_iload hx hb dX5_takeBytes_26 (lv_at hl 0 rfl) ?_
                                refine lv_iload_n hx hb dX5_takeBytes_28 rfl (lv_at hl 3 rfl) ?_
                                refine lv_icmp_ge (tgt := 78) hx hb dX5_takeBytes_29 (by decide) (fun c_29_107 => ?_) (fun c_29_107 => ?_)
                                · have t_29_107 := c_29_107
                                  try simp only [kb_eq0, kb_ne0, lg_cmp_lt, lg_cmp_le, lg_cmp_gt, lg_cmp_ge, lg_cmp_eq] at t_29_107
                                  try simp only [Int32.lt_iff_toInt_lt, Int32.le_iff_toInt_le, ← Int32.toInt_inj, Int64.lt_iff_toInt_lt, Int64.le_iff_toInt_le, ← Int64.toInt_inj, Int32.toInt_toInt64, Int32.reduceToInt, Int64.reduceToInt] at t_29_107
                                  refine lv_iconst (v := 1) hx hb dX5_takeBytes_78 (by decide) ?_
                                  refine kIret (u := (upd (upd (upd (upd (upd (upd (fun _ => 0) (0 : Int32).toNatClampNeg (vp_nar .byte (v >>> ((0 : Int32).toInt64 &&& 63)).toInt32.toInt8.toInt32)) (1 : Int32).toNatClampNeg (vp_nar .byte (v >>> ((8 : Int32).toInt64 &&& 63)).toInt32.toInt8.toInt32)) (2 : Int32).toNatClampNeg (vp_nar .byte (v >>> ((16 : Int32).toInt64 &&& 63)).toInt32.toInt8.toInt32)) (3 : Int32).toNatClampNeg (vp_nar .byte (v >>> ((24 : Int32).toInt64 &&& 63)).toInt32.toInt8.toInt32)) (4 : Int32).toNatClampNeg (vp_nar .byte (v >>> ((32 : Int32).toInt64 &&& 63)).toInt32.toInt8.toInt32)) (5 : Int32).toNatClampNeg (vp_nar .byte (v >>> ((40 : Int32).toInt64 &&& 63)).toInt32.toInt8.toInt32))) hx hb hr rfl hlocks hS dX5_takeBytes_79 ?_ (hP.sub [0, 1] rfl) (hD.sub [0, 1] (by decide) rfl)
                                  exact rfl
                                · exact absurd (by decide) c_29_107
      · exact absurd (by decide) c_18_82
  · refine lv_aload_n hx hb dX5_takeBytes_0 rfl (lv_at hl 0 rfl) ?_
    refine va_get (D := D) (ci := 5) (v := .int 0) (C := RX5) (T := TX5) (N := 7) hx hb hts iX5_takeBytes_X5 hown hK hP 0 rfl rfl 1 (by decide) (hts (.fieldLink RX5 19 "TapeCalculator$Text" "length" "I") (List.mem_of_getElem? (i := 1) rfl)) (fun _ h9 => h9) rfl dX5_takeBytes_1 ?_
    refine lv_if_lt (tgt := 21) hx hb dX5_takeBytes_4 (by decide) (fun c_4_108 => ?_) (fun c_4_108 => ?_)
    · exact absurd c_4_108 (by decide)
    · have t_4_108 := c_4_108
      try simp only [kb_eq0, kb_ne0, lg_cmp_lt, lg_cmp_le, lg_cmp_gt, lg_cmp_ge, lg_cmp_eq] at t_4_108
      try simp only [Int32.lt_iff_toInt_lt, Int32.le_iff_toInt_le, ← Int32.toInt_inj, Int64.lt_iff_toInt_lt, Int64.le_iff_toInt_le, ← Int64.toInt_inj, Int32.toInt_toInt64, Int32.reduceToInt, Int64.reduceToInt] at t_4_108
      refine lv_aload_n hx hb dX5_takeBytes_7 rfl (lv_at hl 0 rfl) ?_
      refine va_get (D := D) (ci := 5) (v := .int 0) (C := RX5) (T := TX5) (N := 7) hx hb hts iX5_takeBytes_X5 hown hK hP 0 rfl rfl 1 (by decide) (hts (.fieldLink RX5 19 "TapeCalculator$Text" "length" "I") (List.mem_of_getElem? (i := 1) rfl)) (fun _ h9 => h9) rfl dX5_takeBytes_8 ?_
      refine lv_iload_n hx hb dX5_takeBytes_11 rfl (lv_at hl 2 rfl) ?_
      refine lv_iadd hx hb dX5_takeBytes_12 ?_
      refine lv_topi (fun x_110 ex_110 => ?_)
      obtain rfl : x_110 = 7 := ex_110.trans (by decide)
      refine lv_aload_n hx hb dX5_takeBytes_13 rfl (lv_at hl 0 rfl) ?_
      refine va_get (D := D) (ci := 5) (v := .ref bX) (C := RX5) (T := TX5) (N := 7) hx hb hts iX5_takeBytes_X5 hown hK hP 0 rfl rfl 0 (by decide) (hts (.fieldLink RX5 9 "TapeCalculator$Text" "bytes" "[B") (List.mem_of_getElem? (i := 2) rfl)) (fun _ h9 => h9) rfl dX5_takeBytes_14 ?_
      refine va_alen hx hb hK hP 1 2 rfl rfl (v := 2000) rfl dX5_takeBytes_17 ?_
      refine lv_icmp_le (tgt := 23) hx hb dX5_takeBytes_18 (by decide) (fun c_18_110 => ?_) (fun c_18_110 => ?_)
      · have t_18_110 := c_18_110
        try simp only [kb_eq0, kb_ne0, lg_cmp_lt, lg_cmp_le, lg_cmp_gt, lg_cmp_ge, lg_cmp_eq] at t_18_110
        try simp only [Int32.lt_iff_toInt_lt, Int32.le_iff_toInt_le, ← Int32.toInt_inj, Int64.lt_iff_toInt_lt, Int64.le_iff_toInt_le, ← Int64.toInt_inj, Int32.toInt_toInt64, Int32.reduceToInt, Int64.reduceToInt] at t_18_110
        refine lv_iconst (v := 0) hx hb dX5_takeBytes_23 (by decide) ?_
        refine lv_istore (lv' := [(4, .int 0), (0, .ref aX), (1, .long v), (3, .int 7)]) hx hb dX5_takeBytes_24 hl (by decide) rfl (fun ls hl => ?_)
        refine lv_iload hx hb dX5_takeBytes_26 (lv_at hl 0 rfl) ?_
        refine lv_iload_n hx hb dX5_takeBytes_28 rfl (lv_at hl 3 rfl) ?_
        refine lv_icmp_ge (tgt := 78) hx hb dX5_takeBytes_29 (by decide) (fun c_29_111 => ?_) (fun c_29_111 => ?_)
        · exact absurd c_29_111 (by decide)
        · have t_29_111 := c_29_111
          try simp only [kb_eq0, kb_ne0, lg_cmp_lt, lg_cmp_le, lg_cmp_gt, lg_cmp_ge, lg_cmp_eq] at t_29_111
          try simp only [Int32.lt_iff_toInt_lt, Int32.le_iff_toInt_le, ← Int32.toInt_inj, Int64.lt_iff_toInt_lt, Int64.le_iff_toInt_le, ← Int64.toInt_inj, Int32.toInt_toInt64, Int32.reduceToInt, Int64.reduceToInt] at t_29_111
          refine lv_aload_n hx hb dX5_takeBytes_32 rfl (lv_at hl 1 rfl) ?_
          refine va_get (D := D) (ci := 5) (v := .int 0) (C := RX5) (T := TX5) (N := 7) hx hb hts iX5_takeBytes_X5 hown hK hP 0 rfl rfl 1 (by decide) (hts (.fieldLink RX5 19 "TapeCalculator$Text" "length" "I") (List.mem_of_getElem? (i := 1) rfl)) (fun _ h9 => h9) rfl dX5_takeBytes_33 ?_
          refine lv_aload_n hx hb dX5_takeBytes_36 rfl (lv_at hl 1 rfl) ?_
          refine va_get (D := D) (ci := 5) (v := .ref bX) (C := RX5) (T := TX5) (N := 7) hx hb hts iX5_takeBytes_X5 hown hK hP 0 rfl rfl 0 (by decide) (hts (.fieldLink RX5 9 "TapeCalculator$Text" "bytes" "[B") (List.mem_of_getElem? (i := 2) rfl)) (fun _ h9 => h9) rfl dX5_takeBytes_37 ?_
          refine va_alen hx hb hK hP 1 2 rfl rfl (v := 2000) rfl dX5_takeBytes_40 ?_
          refine lv_icmp_ge (tgt := 78) hx hb dX5_takeBytes_41 (by decide) (fun c_41_112 => ?_) (fun c_41_112 => ?_)
          · exact absurd c_41_112 (by decide)
          · have t_41_112 := c_41_112
            try simp only [kb_eq0, kb_ne0, lg_cmp_lt, lg_cmp_le, lg_cmp_gt, lg_cmp_ge, lg_cmp_eq] at t_41_112
            try simp only [Int32.lt_iff_toInt_lt, Int32.le_iff_toInt_le, ← Int32.toInt_inj, Int64.lt_iff_toInt_lt, Int64.le_iff_toInt_le, ← Int64.toInt_inj, Int32.toInt_toInt64, Int32.reduceToInt, Int64.reduceToInt] at t_41_112
            refine lv_aload_n hx hb dX5_takeBytes_44 rfl (lv_at hl 1 rfl) ?_
            refine va_get (D := D) (ci := 5) (v := .ref bX) (C := RX5) (T := TX5) (N := 7) hx hb hts iX5_takeBytes_X5 hown hK hP 0 rfl rfl 0 (by decide) (hts (.fieldLink RX5 9 "TapeCalculator$Text" "bytes" "[B") (List.mem_of_getElem? (i := 2) rfl)) (fun _ h9 => h9) rfl dX5_takeBytes_45 ?_
            refine lv_aload_n hx hb dX5_takeBytes_48 rfl (lv_at hl 1 rfl) ?_
            refine va_get (D := D) (ci := 5) (v := .int 0) (C := RX5) (T := TX5) (N := 7) hx hb hts iX5_takeBytes_X5 hown hK hP 0 rfl rfl 1 (by decide) (hts (.fieldLink RX5 19 "TapeCalculator$Text" "length" "I") (List.mem_of_getElem? (i := 1) rfl)) (fun _ h9 => h9) rfl dX5_takeBytes_49 ?_
            refine lv_lload_n hx hb dX5_takeBytes_52 rfl (lv_at hl 2 rfl) ?_
            refine lv_bipush (v := 8) hx hb dX5_takeBytes_53 (by decide) ?_
            refine lv_iload hx hb dX5_takeBytes_55 (lv_at hl 0 rfl) ?_
            refine lv_imul hx hb dX5_takeBytes_57 ?_
            refine lv_topi (fun x_114 ex_114 => ?_)
            obtain rfl : x_114 = 0 := ex_114.trans (by decide)
            refine lv_lshr hx hb dX5_takeBytes_58 rfl ?_
            refine lv_l2i hx hb dX5_takeBytes_59 rfl ?_
            refine lv_i2b hx hb dX5_takeBytes_60 rfl ?_
            refine va_bast hx hb hK hP hD hS 1 2 rfl rfl (vp_in_iff.mpr (by decide)) dX5_takeBytes_61 (fun H locs hP hD hS => ?_)
            have hP : va_P D vwCl [(aX, .inr (5, [.ref bX, .int 0, .int (-1), .int 0, .int 0, .int 0, .long 0])), (bX, .inl (cB, 2000, .inl (upd (fun _ => 0) (0 : Int32).toNatClampNeg (vp_nar .byte (v >>> ((0 : Int32).toInt64 &&& 63)).toInt32.toInt8.toInt32))))] H := hP
            have hD : va_D A [(aX, .inr (5, [.ref bX, .int 0, .int (-1), .int 0, .int 0, .int 0, .long 0])), (bX, .inl (cB, 2000, .inl (upd (fun _ => 0) (0 : Int32).toNatClampNeg (vp_nar .byte (v >>> ((0 : Int32).toInt64 &&& 63)).toInt32.toInt8.toInt32))))] := hD
            refine lv_aload_n hx hb dX5_takeBytes_62 rfl (lv_at hl 1 rfl) ?_
            refine lv_dup hx hb dX5_takeBytes_63 rfl ?_
            refine va_get (D := D) (ci := 5) (v := .int 0) (C := RX5) (T := TX5) (N := 7) hx hb hts iX5_takeBytes_X5 hown hK hP 0 rfl rfl 1 (by decide) (hts (.fieldLink RX5 19 "TapeCalculator$Text" "length" "I") (List.mem_of_getElem? (i := 1) rfl)) (fun _ h9 => h9) rfl dX5_takeBytes_64 ?_
            refine lv_iconst (v := 1) hx hb dX5_takeBytes_67 (by decide) ?_
            refine lv_iadd hx hb dX5_takeBytes_68 ?_
            refine lv_topi (fun x_115 ex_115 => ?_)
            obtain rfl : x_115 = 1 := ex_115.trans (by decide)
            refine va_put (D := D) (ci := 5) (v := .int 1) (ty := .int) (C := RX5) (T := TX5) (N := 7) hx hb hts iX5_takeBytes_X5 tyX5 tyX5_ok nmX5 hown hK hP hD hS 0 rfl rfl 1 (by decide) (hts (.fieldLink RX5 19 "TapeCalculator$Text" "length" "I") (List.mem_of_getElem? (i := 1) rfl)) (fun _ h9 => h9) rfl (by decide +kernel) rfl rfl (Nat.le_of_ble_eq_true rfl) dX5_takeBytes_69 (fun H locs hP hD hS => ?_)
            have hP : va_P D vwCl [(aX, .inr (5, [.ref bX, .int 1, .int (-1), .int 0, .int 0, .int 0, .long 0])), (bX, .inl (cB, 2000, .inl (upd (fun _ => 0) (0 : Int32).toNatClampNeg (vp_nar .byte (v >>> ((0 : Int32).toInt64 &&& 63)).toInt32.toInt8.toInt32))))] H := hP
            have hD : va_D A [(aX, .inr (5, [.ref bX, .int 1, .int (-1), .int 0, .int 0, .int 0, .long 0])), (bX, .inl (cB, 2000, .inl (upd (fun _ => 0) (0 : Int32).toNatClampNeg (vp_nar .byte (v >>> ((0 : Int32).toInt64 &&& 63)).toInt32.toInt8.toInt32))))] := hD
            refine lv_iinc (v := 1) (lv' := [(4, .int 1), (0, .ref aX), (1, .long v), (3, .int 7)]) hx hb dX5_takeBytes_72 hl (k := 0) rfl (by decide) (by decide) rfl (fun ls hl => ?_)
            refine lv_goto (tgt := 26) hx hb dX5_takeBytes_75 (by decide) ?_
            refine lv_iload hx hb dX5_takeBytes_26 (lv_at hl 0 rfl) ?_
            refine lv_iload_n hx hb dX5_takeBytes_28 rfl (lv_at hl 3 rfl) ?_
            refine lv_icmp_ge (tgt := 78) hx hb dX5_takeBytes_29 (by decide) (fun c_29_115 => ?_) (fun c_29_115 => ?_)
            · exact absurd c_29_115 (by decide)
            · have t_29_115 := c_29_115
              try simp only [kb_eq0, kb_ne0, lg_cmp_lt, lg_cmp_le, lg_cmp_gt, lg_cmp_ge, lg_cmp_eq] at t_29_115
              try simp only [Int32.lt_iff_toInt_lt, Int32.le_iff_toInt_le, ← Int32.toInt_inj, Int64.lt_iff_toInt_lt, Int64.le_iff_toInt_le, ← Int64.toInt_inj, Int32.toInt_toInt64, Int32.reduceToInt, Int64.reduceToInt] at t_29_115
              refine lv_aload_n hx hb dX5_takeBytes_32 rfl (lv_at hl 1 rfl) ?_
              refine va_get (D := D) (ci := 5) (v := .int 1) (C := RX5) (T := TX5) (N := 7) hx hb hts iX5_takeBytes_X5 hown hK hP 0 rfl rfl 1 (by decide) (hts (.fieldLink RX5 19 "TapeCalculator$Text" "length" "I") (List.mem_of_getElem? (i := 1) rfl)) (fun _ h9 => h9) rfl dX5_takeBytes_33 ?_
              refine lv_aload_n hx hb dX5_takeBytes_36 rfl (lv_at hl 1 rfl) ?_
              refine va_get (D := D) (ci := 5) (v := .ref bX) (C := RX5) (T := TX5) (N := 7) hx hb hts iX5_takeBytes_X5 hown hK hP 0 rfl rfl 0 (by decide) (hts (.fieldLink RX5 9 "TapeCalculator$Text" "bytes" "[B") (List.mem_of_getElem? (i := 2) rfl)) (fun _ h9 => h9) rfl dX5_takeBytes_37 ?_
              refine va_alen hx hb hK hP 1 2 rfl rfl (v := 2000) rfl dX5_takeBytes_40 ?_
              refine lv_icmp_ge (tgt := 78) hx hb dX5_takeBytes_41 (by decide) (fun c_41_116 => ?_) (fun c_41_116 => ?_)
              · exact absurd c_41_116 (by decide)
              · have t_41_116 := c_41_116
                try simp only [kb_eq0, kb_ne0, lg_cmp_lt, lg_cmp_le, lg_cmp_gt, lg_cmp_ge, lg_cmp_eq] at t_41_116
                try simp only [Int32.lt_iff_toInt_lt, Int32.le_iff_toInt_le, ← Int32.toInt_inj, Int64.lt_iff_toInt_lt, Int64.le_iff_toInt_le, ← Int64.toInt_inj, Int32.toInt_toInt64, Int32.reduceToInt, Int64.reduceToInt] at t_41_116
                refine lv_aload_n hx hb dX5_takeBytes_44 rfl (lv_at hl 1 rfl) ?_
                refine va_get (D := D) (ci := 5) (v := .ref bX) (C := RX5) (T := TX5) (N := 7) hx hb hts iX5_takeBytes_X5 hown hK hP 0 rfl rfl 0 (by decide) (hts (.fieldLink RX5 9 "TapeCalculator$Text" "bytes" "[B") (List.mem_of_getElem? (i := 2) rfl)) (fun _ h9 => h9) rfl dX5_takeBytes_45 ?_
                refine lv_aload_n hx hb dX5_takeBytes_48 rfl (lv_at hl 1 rfl) ?_
                refine va_get (D := D) (ci := 5) (v := .int 1) (C := RX5) (T := TX5) (N := 7) hx hb hts iX5_takeBytes_X5 hown hK hP 0 rfl rfl 1 (by decide) (hts (.fieldLink RX5 19 "TapeCalculator$Text" "length" "I") (List.mem_of_getElem? (i := 1) rfl)) (fun _ h9 => h9) rfl dX5_takeBytes_49 ?_
                refine lv_lload_n hx hb dX5_takeBytes_52 rfl (lv_at hl 2 rfl) ?_
                refine lv_bipush (v := 8) hx hb dX5_takeBytes_53 (by decide) ?_
                refine lv_iload hx hb dX5_takeBytes_55 (lv_at hl 0 rfl) ?_
                refine lv_imul hx hb dX5_takeBytes_57 ?_
                refine lv_topi (fun x_118 ex_118 => ?_)
                obtain rfl : x_118 = 8 := ex_118.trans (by decide)
                refine lv_lshr hx hb dX5_takeBytes_58 rfl ?_
                refine lv_l2i hx hb dX5_takeBytes_59 rfl ?_
                refine lv_i2b hx hb dX5_takeBytes_60 rfl ?_
                refine va_bast hx hb hK hP hD hS 1 2 rfl rfl (vp_in_iff.mpr (by decide)) dX5_takeBytes_61 (fun H locs hP hD hS => ?_)
                have hP : va_P D vwCl [(aX, .inr (5, [.ref bX, .int 1, .int (-1), .int 0, .int 0, .int 0, .long 0])), (bX, .inl (cB, 2000, .inl (upd (upd (fun _ => 0) (0 : Int32).toNatClampNeg (vp_nar .byte (v >>> ((0 : Int32).toInt64 &&& 63)).toInt32.toInt8.toInt32)) (1 : Int32).toNatClampNeg (vp_nar .byte (v >>> ((8 : Int32).toInt64 &&& 63)).toInt32.toInt8.toInt32))))] H := hP
                have hD : va_D A [(aX, .inr (5, [.ref bX, .int 1, .int (-1), .int 0, .int 0, .int 0, .long 0])), (bX, .inl (cB, 2000, .inl (upd (upd (fun _ => 0) (0 : Int32).toNatClampNeg (vp_nar .byte (v >>> ((0 : Int32).toInt64 &&& 63)).toInt32.toInt8.toInt32)) (1 : Int32).toNatClampNeg (vp_nar .byte (v >>> ((8 : Int32).toInt64 &&& 63)).toInt32.toInt8.toInt32))))] := hD
                refine lv_aload_n hx hb dX5_takeBytes_62 rfl (lv_at hl 1 rfl) ?_
                refine lv_dup hx hb dX5_takeBytes_63 rfl ?_
                refine va_get (D := D) (ci := 5) (v := .int 1) (C := RX5) (T := TX5) (N := 7) hx hb hts iX5_takeBytes_X5 hown hK hP 0 rfl rfl 1 (by decide) (hts (.fieldLink RX5 19 "TapeCalculator$Text" "length" "I") (List.mem_of_getElem? (i := 1) rfl)) (fun _ h9 => h9) rfl dX5_takeBytes_64 ?_
                refine lv_iconst (v := 1) hx hb dX5_takeBytes_67 (by decide) ?_
                refine lv_iadd hx hb dX5_takeBytes_68 ?_
                refine lv_topi (fun x_119 ex_119 => ?_)
                obtain rfl : x_119 = 2 := ex_119.trans (by decide)
                refine va_put (D := D) (ci := 5) (v := .int 2) (ty := .int) (C := RX5) (T := TX5) (N := 7) hx hb hts iX5_takeBytes_X5 tyX5 tyX5_ok nmX5 hown hK hP hD hS 0 rfl rfl 1 (by decide) (hts (.fieldLink RX5 19 "TapeCalculator$Text" "length" "I") (List.mem_of_getElem? (i := 1) rfl)) (fun _ h9 => h9) rfl (by decide +kernel) rfl rfl (Nat.le_of_ble_eq_true rfl) dX5_takeBytes_69 (fun H locs hP hD hS => ?_)
                have hP : va_P D vwCl [(aX, .inr (5, [.ref bX, .int 2, .int (-1), .int 0, .int 0, .int 0, .long 0])), (bX, .inl (cB, 2000, .inl (upd (upd (fun _ => 0) (0 : Int32).toNatClampNeg (vp_nar .byte (v >>> ((0 : Int32).toInt64 &&& 63)).toInt32.toInt8.toInt32)) (1 : Int32).toNatClampNeg (vp_nar .byte (v >>> ((8 : Int32).toInt64 &&& 63)).toInt32.toInt8.toInt32))))] H := hP
                have hD : va_D A [(aX, .inr (5, [.ref bX, .int 2, .int (-1), .int 0, .int 0, .int 0, .long 0])), (bX, .inl (cB, 2000, .inl (upd (upd (fun _ => 0) (0 : Int32).toNatClampNeg (vp_nar .byte (v >>> ((0 : Int32).toInt64 &&& 63)).toInt32.toInt8.toInt32)) (1 : Int32).toNatClampNeg (vp_nar .byte (v >>> ((8 : Int32).toInt64 &&& 63)).toInt32.toInt8.toInt32))))] := hD
                refine lv_iinc (v := 2) (lv' := [(4, .int 2), (0, .ref aX), (1, .long v), (3, .int 7)]) hx hb dX5_takeBytes_72 hl (k := 0) rfl (by decide) (by decide) rfl (fun ls hl => ?_)
                refine lv_goto (tgt := 26) hx hb dX5_takeBytes_75 (by decide) ?_
                refine lv_iload hx hb dX5_takeBytes_26 (lv_at hl 0 rfl) ?_
                refine lv_iload_n hx hb dX5_takeBytes_28 rfl (lv_at hl 3 rfl) ?_
                refine lv_icmp_ge (tgt := 78) hx hb dX5_takeBytes_29 (by decide) (fun c_29_119 => ?_) (fun c_29_119 => ?_)
                · exact absurd c_29_119 (by decide)
                · have t_29_119 := c_29_119
                  try simp only [kb_eq0, kb_ne0, lg_cmp_lt, lg_cmp_le, lg_cmp_gt, lg_cmp_ge, lg_cmp_eq] at t_29_119
                  try simp only [Int32.lt_iff_toInt_lt, Int32.le_iff_toInt_le, ← Int32.toInt_inj, Int64.lt_iff_toInt_lt, Int64.le_iff_toInt_le, ← Int64.toInt_inj, Int32.toInt_toInt64, Int32.reduceToInt, Int64.reduceToInt] at t_29_119
                  refine lv_aload_n hx hb dX5_takeBytes_32 rfl (lv_at hl 1 rfl) ?_
                  refine va_get (D := D) (ci := 5) (v := .int 2) (C := RX5) (T := TX5) (N := 7) hx hb hts iX5_takeBytes_X5 hown hK hP 0 rfl rfl 1 (by decide) (hts (.fieldLink RX5 19 "TapeCalculator$Text" "length" "I") (List.mem_of_getElem? (i := 1) rfl)) (fun _ h9 => h9) rfl dX5_takeBytes_33 ?_
                  refine lv_aload_n hx hb dX5_takeBytes_36 rfl (lv_at hl 1 rfl) ?_
                  refine va_get (D := D) (ci := 5) (v := .ref bX) (C := RX5) (T := TX5) (N := 7) hx hb hts iX5_takeBytes_X5 hown hK hP 0 rfl rfl 0 (by decide) (hts (.fieldLink RX5 9 "TapeCalculator$Text" "bytes" "[B") (List.mem_of_getElem? (i := 2) rfl)) (fun _ h9 => h9) rfl dX5_takeBytes_37 ?_
                  refine va_alen hx hb hK hP 1 2 rfl rfl (v := 2000) rfl dX5_takeBytes_40 ?_
                  refine lv_icmp_ge (tgt := 78) hx hb dX5_takeBytes_41 (by decide) (fun c_41_120 => ?_) (fun c_41_120 => ?_)
                  · exact absurd c_41_120 (by decide)
                  · have t_41_120 := c_41_120
                    try simp only [kb_eq0, kb_ne0, lg_cmp_lt, lg_cmp_le, lg_cmp_gt, lg_cmp_ge, lg_cmp_eq] at t_41_120
                    try simp only [Int32.lt_iff_toInt_lt, Int32.le_iff_toInt_le, ← Int32.toInt_inj, Int64.lt_iff_toInt_lt, Int64.le_iff_toInt_le, ← Int64.toInt_inj, Int32.toInt_toInt64, Int32.reduceToInt, Int64.reduceToInt] at t_41_120
                    refine lv_aload_n hx hb dX5_takeBytes_44 rfl (lv_at hl 1 rfl) ?_
                    refine va_get (D := D) (ci := 5) (v := .ref bX) (C := RX5) (T := TX5) (N := 7) hx hb hts iX5_takeBytes_X5 hown hK hP 0 rfl rfl 0 (by decide) (hts (.fieldLink RX5 9 "TapeCalculator$Text" "bytes" "[B") (List.mem_of_getElem? (i := 2) rfl)) (fun _ h9 => h9) rfl dX5_takeBytes_45 ?_
                    refine lv_aload_n hx hb dX5_takeBytes_48 rfl (lv_at hl 1 rfl) ?_
                    refine va_get (D := D) (ci := 5) (v := .int 2) (C := RX5) (T := TX5) (N := 7) hx hb hts iX5_takeBytes_X5 hown hK hP 0 rfl rfl 1 (by decide) (hts (.fieldLink RX5 19 "TapeCalculator$Text" "length" "I") (List.mem_of_getElem? (i := 1) rfl)) (fun _ h9 => h9) rfl dX5_takeBytes_49 ?_
                    refine lv_lload_n hx hb dX5_takeBytes_52 rfl (lv_at hl 2 rfl) ?_
                    refine lv_bipush (v := 8) hx hb dX5_takeBytes_53 (by decide) ?_
                    refine lv_iload hx hb dX5_takeBytes_55 (lv_at hl 0 rfl) ?_
                    refine lv_imul hx hb dX5_takeBytes_57 ?_
                    refine lv_topi (fun x_122 ex_122 => ?_)
                    obtain rfl : x_122 = 16 := ex_122.trans (by decide)
                    refine lv_lshr hx hb dX5_takeBytes_58 rfl ?_
                    refine lv_l2i hx hb dX5_takeBytes_59 rfl ?_
                    refine lv_i2b hx hb dX5_takeBytes_60 rfl ?_
                    refine va_bast hx hb hK hP hD hS 1 2 rfl rfl (vp_in_iff.mpr (by decide)) dX5_takeBytes_61 (fun H locs hP hD hS => ?_)
                    have hP : va_P D vwCl [(aX, .inr (5, [.ref bX, .int 2, .int (-1), .int 0, .int 0, .int 0, .long 0])), (bX, .inl (cB, 2000, .inl (upd (upd (upd (fun _ => 0) (0 : Int32).toNatClampNeg (vp_nar .byte (v >>> ((0 : Int32).toInt64 &&& 63)).toInt32.toInt8.toInt32)) (1 : Int32).toNatClampNeg (vp_nar .byte (v >>> ((8 : Int32).toInt64 &&& 63)).toInt32.toInt8.toInt32)) (2 : Int32).toNatClampNeg (vp_nar .byte (v >>> ((16 : Int32).toInt64 &&& 63)).toInt32.toInt8.toInt32))))] H := hP
                    have hD : va_D A [(aX, .inr (5, [.ref bX, .int 2, .int (-1), .int 0, .int 0, .int 0, .long 0])), (bX, .inl (cB, 2000, .inl (upd (upd (upd (fun _ => 0) (0 : Int32).toNatClampNeg (vp_nar .byte (v >>> ((0 : Int32).toInt64 &&& 63)).toInt32.toInt8.toInt32)) (1 : Int32).toNatClampNeg (vp_nar .byte (v >>> ((8 : Int32).toInt64 &&& 63)).toInt32.toInt8.toInt32)) (2 : Int32).toNatClampNeg (vp_nar .byte (v >>> ((16 : Int32).toInt64 &&& 63)).toInt32.toInt8.toInt32))))] := hD
                    refine lv_aload_n hx hb dX5_takeBytes_62 rfl (lv_at hl 1 rfl) ?_
                    refine lv_dup hx hb dX5_takeBytes_63 rfl ?_
                    refine va_get (D := D) (ci := 5) (v := .int 2) (C := RX5) (T := TX5) (N := 7) hx hb hts iX5_takeBytes_X5 hown hK hP 0 rfl rfl 1 (by decide) (hts (.fieldLink RX5 19 "TapeCalculator$Text" "length" "I") (List.mem_of_getElem? (i := 1) rfl)) (fun _ h9 => h9) rfl dX5_takeBytes_64 ?_
                    refine lv_iconst (v := 1) hx hb dX5_takeBytes_67 (by decide) ?_
                    refine lv_iadd hx hb dX5_takeBytes_68 ?_
                    refine lv_topi (fun x_123 ex_123 => ?_)
                    obtain rfl : x_123 = 3 := ex_123.trans (by decide)
                    refine va_put (D := D) (ci := 5) (v := .int 3) (ty := .int) (C := RX5) (T := TX5) (N := 7) hx hb hts iX5_takeBytes_X5 tyX5 tyX5_ok nmX5 hown hK hP hD hS 0 rfl rfl 1 (by decide) (hts (.fieldLink RX5 19 "TapeCalculator$Text" "length" "I") (List.mem_of_getElem? (i := 1) rfl)) (fun _ h9 => h9) rfl (by decide +kernel) rfl rfl (Nat.le_of_ble_eq_true rfl) dX5_takeBytes_69 (fun H locs hP hD hS => ?_)
                    have hP : va_P D vwCl [(aX, .inr (5, [.ref bX, .int 3, .int (-1), .int 0, .int 0, .int 0, .long 0])), (bX, .inl (cB, 2000, .inl (upd (upd (upd (fun _ => 0) (0 : Int32).toNatClampNeg (vp_nar .byte (v >>> ((0 : Int32).toInt64 &&& 63)).toInt32.toInt8.toInt32)) (1 : Int32).toNatClampNeg (vp_nar .byte (v >>> ((8 : Int32).toInt64 &&& 63)).toInt32.toInt8.toInt32)) (2 : Int32).toNatClampNeg (vp_nar .byte (v >>> ((16 : Int32).toInt64 &&& 63)).toInt32.toInt8.toInt32))))] H := hP
                    have hD : va_D A [(aX, .inr (5, [.ref bX, .int 3, .int (-1), .int 0, .int 0, .int 0, .long 0])), (bX, .inl (cB, 2000, .inl (upd (upd (upd (fun _ => 0) (0 : Int32).toNatClampNeg (vp_nar .byte (v >>> ((0 : Int32).toInt64 &&& 63)).toInt32.toInt8.toInt32)) (1 : Int32).toNatClampNeg (vp_nar .byte (v >>> ((8 : Int32).toInt64 &&& 63)).toInt32.toInt8.toInt32)) (2 : Int32).toNatClampNeg (vp_nar .byte (v >>> ((16 : Int32).toInt64 &&& 63)).toInt32.toInt8.toInt32))))] := hD
                    refine lv_iinc (v := 3) (lv' := [(4, .int 3), (0, .ref aX), (1, .long v), (3, .int 7)]) hx hb dX5_takeBytes_72 hl (k := 0) rfl (by decide) (by decide) rfl (fun ls hl => ?_)
                    refine lv_goto (tgt := 26) hx hb dX5_takeBytes_75 (by decide) ?_
                    refine lv_iload hx hb dX5_takeBytes_26 (lv_at hl 0 rfl) ?_
                    refine lv_iload_n hx hb dX5_takeBytes_28 rfl (lv_at hl 3 rfl) ?_
                    refine lv_icmp_ge (tgt := 78) hx hb dX5_takeBytes_29 (by decide) (fun c_29_123 => ?_) (fun c_29_123 => ?_)
                    · exact absurd c_29_123 (by decide)
                    · have t_29_123 := c_29_123
                      try simp only [kb_eq0, kb_ne0, lg_cmp_lt, lg_cmp_le, lg_cmp_gt, lg_cmp_ge, lg_cmp_eq] at t_29_123
                      try simp only [Int32.lt_iff_toInt_lt, Int32.le_iff_toInt_le, ← Int32.toInt_inj, Int64.lt_iff_toInt_lt, Int64.le_iff_toInt_le, ← Int64.toInt_inj, Int32.toInt_toInt64, Int32.reduceToInt, Int64.reduceToInt] at t_29_123
                      refine lv_aload_n hx hb dX5_takeBytes_32 rfl (lv_at hl 1 rfl) ?_
                      refine va_get (D := D) (ci := 5) (v := .int 3) (C := RX5) (T := TX5) (N := 7) hx hb hts iX5_takeBytes_X5 hown hK hP 0 rfl rfl 1 (by decide) (hts (.fieldLink RX5 19 "TapeCalculator$Text" "length" "I") (List.mem_of_getElem? (i := 1) rfl)) (fun _ h9 => h9) rfl dX5_takeBytes_33 ?_
                      refine lv_aload_n hx hb dX5_takeBytes_36 rfl (lv_at hl 1 rfl) ?_
                      refine va_get (D := D) (ci := 5) (v := .ref bX) (C := RX5) (T := TX5) (N := 7) hx hb hts iX5_takeBytes_X5 hown hK hP 0 rfl rfl 0 (by decide) (hts (.fieldLink RX5 9 "TapeCalculator$Text" "bytes" "[B") (List.mem_of_getElem? (i := 2) rfl)) (fun _ h9 => h9) rfl dX5_takeBytes_37 ?_
                      refine va_alen hx hb hK hP 1 2 rfl rfl (v := 2000) rfl dX5_takeBytes_40 ?_
                      refine lv_icmp_ge (tgt := 78) hx hb dX5_takeBytes_41 (by decide) (fun c_41_124 => ?_) (fun c_41_124 => ?_)
                      · exact absurd c_41_124 (by decide)
                      · have t_41_124 := c_41_124
                        try simp only [kb_eq0, kb_ne0, lg_cmp_lt, lg_cmp_le, lg_cmp_gt, lg_cmp_ge, lg_cmp_eq] at t_41_124
                        try simp only [Int32.lt_iff_toInt_lt, Int32.le_iff_toInt_le, ← Int32.toInt_inj, Int64.lt_iff_toInt_lt, Int64.le_iff_toInt_le, ← Int64.toInt_inj, Int32.toInt_toInt64, Int32.reduceToInt, Int64.reduceToInt] at t_41_124
                        refine lv_aload_n hx hb dX5_takeBytes_44 rfl (lv_at hl 1 rfl) ?_
                        refine va_get (D := D) (ci := 5) (v := .ref bX) (C := RX5) (T := TX5) (N := 7) hx hb hts iX5_takeBytes_X5 hown hK hP 0 rfl rfl 0 (by decide) (hts (.fieldLink RX5 9 "TapeCalculator$Text" "bytes" "[B") (List.mem_of_getElem? (i := 2) rfl)) (fun _ h9 => h9) rfl dX5_takeBytes_45 ?_
                        refine lv_aload_n hx hb dX5_takeBytes_48 rfl (lv_at hl 1 rfl) ?_
                        refine va_get (D := D) (ci := 5) (v := .int 3) (C := RX5) (T := TX5) (N := 7) hx hb hts iX5_takeBytes_X5 hown hK hP 0 rfl rfl 1 (by decide) (hts (.fieldLink RX5 19 "TapeCalculator$Text" "length" "I") (List.mem_of_getElem? (i := 1) rfl)) (fun _ h9 => h9) rfl dX5_takeBytes_49 ?_
                        refine lv_lload_n hx hb dX5_takeBytes_52 rfl (lv_at hl 2 rfl) ?_
                        refine lv_bipush (v := 8) hx hb dX5_takeBytes_53 (by decide) ?_
                        refine lv_iload hx hb dX5_takeBytes_55 (lv_at hl 0 rfl) ?_
                        refine lv_imul hx hb dX5_takeBytes_57 ?_
                        refine lv_topi (fun x_126 ex_126 => ?_)
                        obtain rfl : x_126 = 24 := ex_126.trans (by decide)
                        refine lv_lshr hx hb dX5_takeBytes_58 rfl ?_
                        refine lv_l2i hx hb dX5_takeBytes_59 rfl ?_
                        refine lv_i2b hx hb dX5_takeBytes_60 rfl ?_
                        refine va_bast hx hb hK hP hD hS 1 2 rfl rfl (vp_in_iff.mpr (by decide)) dX5_takeBytes_61 (fun H locs hP hD hS => ?_)
                        have hP : va_P D vwCl [(aX, .inr (5, [.ref bX, .int 3, .int (-1), .int 0, .int 0, .int 0, .long 0])), (bX, .inl (cB, 2000, .inl (upd (upd (upd (upd (fun _ => 0) (0 : Int32).toNatClampNeg (vp_nar .byte (v >>> ((0 : Int32).toInt64 &&& 63)).toInt32.toInt8.toInt32)) (1 : Int32).toNatClampNeg (vp_nar .byte (v >>> ((8 : Int32).toInt64 &&& 63)).toInt32.toInt8.toInt32)) (2 : Int32).toNatClampNeg (vp_nar .byte (v >>> ((16 : Int32).toInt64 &&& 63)).toInt32.toInt8.toInt32)) (3 : Int32).toNatClampNeg (vp_nar .byte (v >>> ((24 : Int32).toInt64 &&& 63)).toInt32.toInt8.toInt32))))] H := hP
                        have hD : va_D A [(aX, .inr (5, [.ref bX, .int 3, .int (-1), .int 0, .int 0, .int 0, .long 0])), (bX, .inl (cB, 2000, .inl (upd (upd (upd (upd (fun _ => 0) (0 : Int32).toNatClampNeg (vp_nar .byte (v >>> ((0 : Int32).toInt64 &&& 63)).toInt32.toInt8.toInt32)) (1 : Int32).toNatClampNeg (vp_nar .byte (v >>> ((8 : Int32).toInt64 &&& 63)).toInt32.toInt8.toInt32)) (2 : Int32).toNatClampNeg (vp_nar .byte (v >>> ((16 : Int32).toInt64 &&& 63)).toInt32.toInt8.toInt32)) (3 : Int32).toNatClampNeg (vp_nar .byte (v >>> ((24 : Int32).toInt64 &&& 63)).toInt32.toInt8.toInt32))))] := hD
                        refine lv_aload_n hx hb dX5_takeBytes_62 rfl (lv_at hl 1 rfl) ?_
                        refine lv_dup hx hb dX5_takeBytes_63 rfl ?_
                        refine va_get (D := D) (ci := 5) (v := .int 3) (C := RX5) (T := TX5) (N := 7) hx hb hts iX5_takeBytes_X5 hown hK hP 0 rfl rfl 1 (by decide) (hts (.fieldLink RX5 19 "TapeCalculator$Text" "length" "I") (List.mem_of_getElem? (i := 1) rfl)) (fun _ h9 => h9) rfl dX5_takeBytes_64 ?_
                        refine lv_iconst (v := 1) hx hb dX5_takeBytes_67 (by decide) ?_
                        refine lv_iadd hx hb dX5_takeBytes_68 ?_
                        refine lv_topi (fun x_127 ex_127 => ?_)
                        obtain rfl : x_127 = 4 := ex_127.trans (by decide)
                        refine va_put (D := D) (ci := 5) (v := .int 4) (ty := .int) (C := RX5) (T := TX5) (N := 7) hx hb hts iX5_takeBytes_X5 tyX5 tyX5_ok nmX5 hown hK hP hD hS 0 rfl rfl 1 (by decide) (hts (.fieldLink RX5 19 "TapeCalculator$Text" "length" "I") (List.mem_of_getElem? (i := 1) rfl)) (fun _ h9 => h9) rfl (by decide +kernel) rfl rfl (Nat.le_of_ble_eq_true rfl) dX5_takeBytes_69 (fun H locs hP hD hS => ?_)
                        have hP : va_P D vwCl [(aX, .inr (5, [.ref bX, .int 4, .int (-1), .int 0, .int 0, .int 0, .long 0])), (bX, .inl (cB, 2000, .inl (upd (upd (upd (upd (fun _ => 0) (0 : Int32).toNatClampNeg (vp_nar .byte (v >>> ((0 : Int32).toInt64 &&& 63)).toInt32.toInt8.toInt32)) (1 : Int32).toNatClampNeg (vp_nar .byte (v >>> ((8 : Int32).toInt64 &&& 63)).toInt32.toInt8.toInt32)) (2 : Int32).toNatClampNeg (vp_nar .byte (v >>> ((16 : Int32).toInt64 &&& 63)).toInt32.toInt8.toInt32)) (3 : Int32).toNatClampNeg (vp_nar .byte (v >>> ((24 : Int32).toInt64 &&& 63)).toInt32.toInt8.toInt32))))] H := hP
                        have hD : va_D A [(aX, .inr (5, [.ref bX, .int 4, .int (-1), .int 0, .int 0, .int 0, .long 0])), (bX, .inl (cB, 2000, .inl (upd (upd (upd (upd (fun _ => 0) (0 : Int32).toNatClampNeg (vp_nar .byte (v >>> ((0 : Int32).toInt64 &&& 63)).toInt32.toInt8.toInt32)) (1 : Int32).toNatClampNeg (vp_nar .byte (v >>> ((8 : Int32).toInt64 &&& 63)).toInt32.toInt8.toInt32)) (2 : Int32).toNatClampNeg (vp_nar .byte (v >>> ((16 : Int32).toInt64 &&& 63)).toInt32.toInt8.toInt32)) (3 : Int32).toNatClampNeg (vp_nar .byte (v >>> ((24 : Int32).toInt64 &&& 63)).toInt32.toInt8.toInt32))))] := hD
                        refine lv_iinc (v := 4) (lv' := [(4, .int 4), (0, .ref aX), (1, .long v), (3, .int 7)]) hx hb dX5_takeBytes_72 hl (k := 0) rfl (by decide) (by decide) rfl (fun ls hl => ?_)
                        refine lv_goto (tgt := 26) hx hb dX5_takeBytes_75 (by decide) ?_
                        refine lv_iload hx hb dX5_takeBytes_26 (lv_at hl 0 rfl) ?_
                        refine lv_iload_n hx hb dX5_takeBytes_28 rfl (lv_at hl 3 rfl) ?_
                        refine lv_icmp_ge (tgt := 78) hx hb dX5_takeBytes_29 (by decide) (fun c_29_127 => ?_) (fun c_29_127 => ?_)
                        · exact absurd c_29_127 (by decide)
                        · have t_29_127 := c_29_127
                          try simp only [kb_eq0, kb_ne0, lg_cmp_lt, lg_cmp_le, lg_cmp_gt, lg_cmp_ge, lg_cmp_eq] at t_29_127
                          try simp only [Int32.lt_iff_toInt_lt, Int32.le_iff_toInt_le, ← Int32.toInt_inj, Int64.lt_iff_toInt_lt, Int64.le_iff_toInt_le, ← Int64.toInt_inj, Int32.toInt_toInt64, Int32.reduceToInt, Int64.reduceToInt] at t_29_127
                          refine lv_aload_n hx hb dX5_takeBytes_32 rfl (lv_at hl 1 rfl) ?_
                          refine va_get (D := D) (ci := 5) (v := .int 4) (C := RX5) (T := TX5) (N := 7) hx hb hts iX5_takeBytes_X5 hown hK hP 0 rfl rfl 1 (by decide) (hts (.fieldLink RX5 19 "TapeCalculator$Text" "length" "I") (List.mem_of_getElem? (i := 1) rfl)) (fun _ h9 => h9) rfl dX5_takeBytes_33 ?_
                          refine lv_aload_n hx hb dX5_takeBytes_36 rfl (lv_at hl 1 rfl) ?_
                          refine va_get (D := D) (ci := 5) (v := .ref bX) (C := RX5) (T := TX5) (N := 7) hx hb hts iX5_takeBytes_X5 hown hK hP 0 rfl rfl 0 (by decide) (hts (.fieldLink RX5 9 "TapeCalculator$Text" "bytes" "[B") (List.mem_of_getElem? (i := 2) rfl)) (fun _ h9 => h9) rfl dX5_takeBytes_37 ?_
                          refine va_alen hx hb hK hP 1 2 rfl rfl (v := 2000) rfl dX5_takeBytes_40 ?_
                          refine lv_icmp_ge (tgt := 78) hx hb dX5_takeBytes_41 (by decide) (fun c_41_128 => ?_) (fun c_41_128 => ?_)
                          · exact absurd c_41_128 (by decide)
                          · have t_41_128 := c_41_128
                            try simp only [kb_eq0, kb_ne0, lg_cmp_lt, lg_cmp_le, lg_cmp_gt, lg_cmp_ge, lg_cmp_eq] at t_41_128
                            try simp only [Int32.lt_iff_toInt_lt, Int32.le_iff_toInt_le, ← Int32.toInt_inj, Int64.lt_iff_toInt_lt, Int64.le_iff_toInt_le, ← Int64.toInt_inj, Int32.toInt_toInt64, Int32.reduceToInt, Int64.reduceToInt] at t_41_128
                            refine lv_aload_n hx hb dX5_takeBytes_44 rfl (lv_at hl 1 rfl) ?_
                            refine va_get (D := D) (ci := 5) (v := .ref bX) (C := RX5) (T := TX5) (N := 7) hx hb hts iX5_takeBytes_X5 hown hK hP 0 rfl rfl 0 (by decide) (hts (.fieldLink RX5 9 "TapeCalculator$Text" "bytes" "[B") (List.mem_of_getElem? (i := 2) rfl)) (fun _ h9 => h9) rfl dX5_takeBytes_45 ?_
                            refine lv_aload_n hx hb dX5_takeBytes_48 rfl (lv_at hl 1 rfl) ?_
                            refine va_get (D := D) (ci := 5) (v := .int 4) (C := RX5) (T := TX5) (N := 7) hx hb hts iX5_takeBytes_X5 hown hK hP 0 rfl rfl 1 (by decide) (hts (.fieldLink RX5 19 "TapeCalculator$Text" "length" "I") (List.mem_of_getElem? (i := 1) rfl)) (fun _ h9 => h9) rfl dX5_takeBytes_49 ?_
                            refine lv_lload_n hx hb dX5_takeBytes_52 rfl (lv_at hl 2 rfl) ?_
                            refine lv_bipush (v := 8) hx hb dX5_takeBytes_53 (by decide) ?_
                            refine lv_iload hx hb dX5_takeBytes_55 (lv_at hl 0 rfl) ?_
                            refine lv_imul hx hb dX5_takeBytes_57 ?_
                            refine lv_topi (fun x_130 ex_130 => ?_)
                            obtain rfl : x_130 = 32 := ex_130.trans (by decide)
                            refine lv_lshr hx hb dX5_takeBytes_58 rfl ?_
                            refine lv_l2i hx hb dX5_takeBytes_59 rfl ?_
                            refine lv_i2b hx hb dX5_takeBytes_60 rfl ?_
                            refine va_bast hx hb hK hP hD hS 1 2 rfl rfl (vp_in_iff.mpr (by decide)) dX5_takeBytes_61 (fun H locs hP hD hS => ?_)
                            have hP : va_P D vwCl [(aX, .inr (5, [.ref bX, .int 4, .int (-1), .int 0, .int 0, .int 0, .long 0])), (bX, .inl (cB, 2000, .inl (upd (upd (upd (upd (upd (fun _ => 0) (0 : Int32).toNatClampNeg (vp_nar .byte (v >>> ((0 : Int32).toInt64 &&& 63)).toInt32.toInt8.toInt32)) (1 : Int32).toNatClampNeg (vp_nar .byte (v >>> ((8 : Int32).toInt64 &&& 63)).toInt32.toInt8.toInt32)) (2 : Int32).toNatClampNeg (vp_nar .byte (v >>> ((16 : Int32).toInt64 &&& 63)).toInt32.toInt8.toInt32)) (3 : Int32).toNatClampNeg (vp_nar .byte (v >>> ((24 : Int32).toInt64 &&& 63)).toInt32.toInt8.toInt32)) (4 : Int32).toNatClampNeg (vp_nar .byte (v >>> ((32 : Int32).toInt64 &&& 63)).toInt32.toInt8.toInt32))))] H := hP
                            have hD : va_D A [(aX, .inr (5, [.ref bX, .int 4, .int (-1), .int 0, .int 0, .int 0, .long 0])), (bX, .inl (cB, 2000, .inl (upd (upd (upd (upd (upd (fun _ => 0) (0 : Int32).toNatClampNeg (vp_nar .byte (v >>> ((0 : Int32).toInt64 &&& 63)).toInt32.toInt8.toInt32)) (1 : Int32).toNatClampNeg (vp_nar .byte (v >>> ((8 : Int32).toInt64 &&& 63)).toInt32.toInt8.toInt32)) (2 : Int32).toNatClampNeg (vp_nar .byte (v >>> ((16 : Int32).toInt64 &&& 63)).toInt32.toInt8.toInt32)) (3 : Int32).toNatClampNeg (vp_nar .byte (v >>> ((24 : Int32).toInt64 &&& 63)).toInt32.toInt8.toInt32)) (4 : Int32).toNatClampNeg (vp_nar .byte (v >>> ((32 : Int32).toInt64 &&& 63)).toInt32.toInt8.toInt32))))] := hD
                            refine lv_aload_n hx hb dX5_takeBytes_62 rfl (lv_at hl 1 rfl) ?_
                            refine lv_dup hx hb dX5_takeBytes_63 rfl ?_
                            refine va_get (D := D) (ci := 5) (v := .int 4) (C := RX5) (T := TX5) (N := 7) hx hb hts iX5_takeBytes_X5 hown hK hP 0 rfl rfl 1 (by decide) (hts (.fieldLink RX5 19 "TapeCalculator$Text" "length" "I") (List.mem_of_getElem? (i := 1) rfl)) (fun _ h9 => h9) rfl dX5_takeBytes_64 ?_
                            refine lv_iconst (v := 1) hx hb dX5_takeBytes_67 (by decide) ?_
                            refine lv_iadd hx hb dX5_takeBytes_68 ?_
                            refine lv_topi (fun x_131 ex_131 => ?_)
                            obtain rfl : x_131 = 5 := ex_131.trans (by decide)
                            refine va_put (D := D) (ci := 5) (v := .int 5) (ty := .int) (C := RX5) (T := TX5) (N := 7) hx hb hts iX5_takeBytes_X5 tyX5 tyX5_ok nmX5 hown hK hP hD hS 0 rfl rfl 1 (by decide) (hts (.fieldLink RX5 19 "TapeCalculator$Text" "length" "I") (List.mem_of_getElem? (i := 1) rfl)) (fun _ h9 => h9) rfl (by decide +kernel) rfl rfl (Nat.le_of_ble_eq_true rfl) dX5_takeBytes_69 (fun H locs hP hD hS => ?_)
                            have hP : va_P D vwCl [(aX, .inr (5, [.ref bX, .int 5, .int (-1), .int 0, .int 0, .int 0, .long 0])), (bX, .inl (cB, 2000, .inl (upd (upd (upd (upd (upd (fun _ => 0) (0 : Int32).toNatClampNeg (vp_nar .byte (v >>> ((0 : Int32).toInt64 &&& 63)).toInt32.toInt8.toInt32)) (1 : Int32).toNatClampNeg (vp_nar .byte (v >>> ((8 : Int32).toInt64 &&& 63)).toInt32.toInt8.toInt32)) (2 : Int32).toNatClampNeg (vp_nar .byte (v >>> ((16 : Int32).toInt64 &&& 63)).toInt32.toInt8.toInt32)) (3 : Int32).toNatClampNeg (vp_nar .byte (v >>> ((24 : Int32).toInt64 &&& 63)).toInt32.toInt8.toInt32)) (4 : Int32).toNatClampNeg (vp_nar .byte (v >>> ((32 : Int32).toInt64 &&& 63)).toInt32.toInt8.toInt32))))] H := hP
                            have hD : va_D A [(aX, .inr (5, [.ref bX, .int 5, .int (-1), .int 0, .int 0, .int 0, .long 0])), (bX, .inl (cB, 2000, .inl (upd (upd (upd (upd (upd (fun _ => 0) (0 : Int32).toNatClampNeg (vp_nar .byte (v >>> ((0 : Int32).toInt64 &&& 63)).toInt32.toInt8.toInt32)) (1 : Int32).toNatClampNeg (vp_nar .byte (v >>> ((8 : Int32).toInt64 &&& 63)).toInt32.toInt8.toInt32)) (2 : Int32).toNatClampNeg (vp_nar .byte (v >>> ((16 : Int32).toInt64 &&& 63)).toInt32.toInt8.toInt32)) (3 : Int32).toNatClampNeg (vp_nar .byte (v >>> ((24 : Int32).toInt64 &&& 63)).toInt32.toInt8.toInt32)) (4 : Int32).toNatClampNeg (vp_nar .byte (v >>> ((32 : Int32).toInt64 &&& 63)).toInt32.toInt8.toInt32))))] := hD
                            refine lv_iinc (v := 5) (lv' := [(4, .int 5), (0, .ref aX), (1, .long v), (3, .int 7)]) hx hb dX5_takeBytes_72 hl (k := 0) rfl (by decide) (by decide) rfl (fun ls hl => ?_)
                            refine lv_goto (tgt := 26) hx hb dX5_takeBytes_75 (by decide) ?_
                            refine lv_iload hx hb dX5_takeBytes_26 (lv_at hl 0 rfl) ?_
                            refine lv_iload_n hx hb dX5_takeBytes_28 rfl (lv_at hl 3 rfl) ?_
                            refine lv_icmp_ge (tgt := 78) hx hb dX5_takeBytes_29 (by decide) (fun c_29_131 => ?_) (fun c_29_131 => ?_)
                            · exact absurd c_29_131 (by decide)
                            · have t_29_131 := c_29_131
                              try simp only [kb_eq0, kb_ne0, lg_cmp_lt, lg_cmp_le, lg_cmp_gt, lg_cmp_ge, lg_cmp_eq] at t_29_131
                              try simp only [Int32.lt_iff_toInt_lt, Int32.le_iff_toInt_le, ← Int32.toInt_inj, Int64.lt_iff_toInt_lt, Int64.le_iff_toInt_le, ← Int64.toInt_inj, Int32.toInt_toInt64, Int32.reduceToInt, Int64.reduceToInt] at t_29_131
                              refine lv_aload_n hx hb dX5_takeBytes_32 rfl (lv_at hl 1 rfl) ?_
                              refine va_get (D := D) (ci := 5) (v := .int 5) (C := RX5) (T := TX5) (N := 7) hx hb hts iX5_takeBytes_X5 hown hK hP 0 rfl rfl 1 (by decide) (hts (.fieldLink RX5 19 "TapeCalculator$Text" "length" "I") (List.mem_of_getElem? (i := 1) rfl)) (fun _ h9 => h9) rfl dX5_takeBytes_33 ?_
                              refine lv_aload_n hx hb dX5_takeBytes_36 rfl (lv_at hl 1 rfl) ?_
                              refine va_get (D := D) (ci := 5) (v := .ref bX) (C := RX5) (T := TX5) (N := 7) hx hb hts iX5_takeBytes_X5 hown hK hP 0 rfl rfl 0 (by decide) (hts (.fieldLink RX5 9 "TapeCalculator$Text" "bytes" "[B") (List.mem_of_getElem? (i := 2) rfl)) (fun _ h9 => h9) rfl dX5_takeBytes_37 ?_
                              refine va_alen hx hb hK hP 1 2 rfl rfl (v := 2000) rfl dX5_takeBytes_40 ?_
                              refine lv_icmp_ge (tgt := 78) hx hb dX5_takeBytes_41 (by decide) (fun c_41_132 => ?_) (fun c_41_132 => ?_)
                              · exact absurd c_41_132 (by decide)
                              · have t_41_132 := c_41_132
                                try simp only [kb_eq0, kb_ne0, lg_cmp_lt, lg_cmp_le, lg_cmp_gt, lg_cmp_ge, lg_cmp_eq] at t_41_132
                                try simp only [Int32.lt_iff_toInt_lt, Int32.le_iff_toInt_le, ← Int32.toInt_inj, Int64.lt_iff_toInt_lt, Int64.le_iff_toInt_le, ← Int64.toInt_inj, Int32.toInt_toInt64, Int32.reduceToInt, Int64.reduceToInt] at t_41_132
                                refine lv_aload_n hx hb dX5_takeBytes_44 rfl (lv_at hl 1 rfl) ?_
                                refine va_get (D := D) (ci := 5) (v := .ref bX) (C := RX5) (T := TX5) (N := 7) hx hb hts iX5_takeBytes_X5 hown hK hP 0 rfl rfl 0 (by decide) (hts (.fieldLink RX5 9 "TapeCalculator$Text" "bytes" "[B") (List.mem_of_getElem? (i := 2) rfl)) (fun _ h9 => h9) rfl dX5_takeBytes_45 ?_
                                refine lv_aload_n hx hb dX5_takeBytes_48 rfl (lv_at hl 1 rfl) ?_
                                refine va_get (D := D) (ci := 5) (v := .int 5) (C := RX5) (T := TX5) (N := 7) hx hb hts iX5_takeBytes_X5 hown hK hP 0 rfl rfl 1 (by decide) (hts (.fieldLink RX5 19 "TapeCalculator$Text" "length" "I") (List.mem_of_getElem? (i := 1) rfl)) (fun _ h9 => h9) rfl dX5_takeBytes_49 ?_
                                refine lv_lload_n hx hb dX5_takeBytes_52 rfl (lv_at hl 2 rfl) ?_
                                refine lv_bipush (v := 8) hx hb dX5_takeBytes_53 (by decide) ?_
                                refine lv_iload hx hb dX5_takeBytes_55 (lv_at hl 0 rfl) ?_
                                refine lv_imul hx hb dX5_takeBytes_57 ?_
                                refine lv_topi (fun x_134 ex_134 => ?_)
                                obtain rfl : x_134 = 40 := ex_134.trans (by decide)
                                refine lv_lshr hx hb dX5_takeBytes_58 rfl ?_
                                refine lv_l2i hx hb dX5_takeBytes_59 rfl ?_
                                refine lv_i2b hx hb dX5_takeBytes_60 rfl ?_
                                refine va_bast hx hb hK hP hD hS 1 2 rfl rfl (vp_in_iff.mpr (by decide)) dX5_takeBytes_61 (fun H locs hP hD hS => ?_)
                                have hP : va_P D vwCl [(aX, .inr (5, [.ref bX, .int 5, .int (-1), .int 0, .int 0, .int 0, .long 0])), (bX, .inl (cB, 2000, .inl (upd (upd (upd (upd (upd (upd (fun _ => 0) (0 : Int32).toNatClampNeg (vp_nar .byte (v >>> ((0 : Int32).toInt64 &&& 63)).toInt32.toInt8.toInt32)) (1 : Int32).toNatClampNeg (vp_nar .byte (v >>> ((8 : Int32).toInt64 &&& 63)).toInt32.toInt8.toInt32)) (2 : Int32).toNatClampNeg (vp_nar .byte (v >>> ((16 : Int32).toInt64 &&& 63)).toInt32.toInt8.toInt32)) (3 : Int32).toNatClampNeg (vp_nar .byte (v >>> ((24 : Int32).toInt64 &&& 63)).toInt32.toInt8.toInt32)) (4 : Int32).toNatClampNeg (vp_nar .byte (v >>> ((32 : Int32).toInt64 &&& 63)).toInt32.toInt8.toInt32)) (5 : Int32).toNatClampNeg (vp_nar .byte (v >>> ((40 : Int32).toInt64 &&& 63)).toInt32.toInt8.toInt32))))] H := hP
                                have hD : va_D A [(aX, .inr (5, [.ref bX, .int 5, .int (-1), .int 0, .int 0, .int 0, .long 0])), (bX, .inl (cB, 2000, .inl (upd (upd (upd (upd (upd (upd (fun _ => 0) (0 : Int32).toNatClampNeg (vp_nar .byte (v >>> ((0 : Int32).toInt64 &&& 63)).toInt32.toInt8.toInt32)) (1 : Int32).toNatClampNeg (vp_nar .byte (v >>> ((8 : Int32).toInt64 &&& 63)).toInt32.toInt8.toInt32)) (2 : Int32).toNatClampNeg (vp_nar .byte (v >>> ((16 : Int32).toInt64 &&& 63)).toInt32.toInt8.toInt32)) (3 : Int32).toNatClampNeg (vp_nar .byte (v >>> ((24 : Int32).toInt64 &&& 63)).toInt32.toInt8.toInt32)) (4 : Int32).toNatClampNeg (vp_nar .byte (v >>> ((32 : Int32).toInt64 &&& 63)).toInt32.toInt8.toInt32)) (5 : Int32).toNatClampNeg (vp_nar .byte (v >>> ((40 : Int32).toInt64 &&& 63)).toInt32.toInt8.toInt32))))] := hD
                                refine lv_aload_n hx hb dX5_takeBytes_62 rfl (lv_at hl 1 rfl) ?_
                                refine lv_dup hx hb dX5_takeBytes_63 rfl ?_
                                refine va_get (D := D) (ci := 5) (v := .int 5) (C := RX5) (T := TX5) (N := 7) hx hb hts iX5_takeBytes_X5 hown hK hP 0 rfl rfl 1 (by decide) (hts (.fieldLink RX5 19 "TapeCalculator$Text" "length" "I") (List.mem_of_getElem? (i := 1) rfl)) (fun _ h9 => h9) rfl dX5_takeBytes_64 ?_
                                refine lv_iconst (v := 1) hx hb dX5_takeBytes_67 (by decide) ?_
                                refine lv_iadd hx hb dX5_takeBytes_68 ?_
                                refine lv_topi (fun x_135 ex_135 => ?_)
                                obtain rfl : x_135 = 6 := ex_135.trans (by decide)
                                refine va_put (D := D) (ci := 5) (v := .int 6) (ty := .int) (C := RX5) (T := TX5) (N := 7) hx hb hts iX5_takeBytes_X5 tyX5 tyX5_ok nmX5 hown hK hP hD hS 0 rfl rfl 1 (by decide) (hts (.fieldLink RX5 19 "TapeCalculator$Text" "length" "I") (List.mem_of_getElem? (i := 1) rfl)) (fun _ h9 => h9) rfl (by decide +kernel) rfl rfl (Nat.le_of_ble_eq_true rfl) dX5_takeBytes_69 (fun H locs hP hD hS => ?_)
                                have hP : va_P D vwCl [(aX, .inr (5, [.ref bX, .int 6, .int (-1), .int 0, .int 0, .int 0, .long 0])), (bX, .inl (cB, 2000, .inl (upd (upd (upd (upd (upd (upd (fun _ => 0) (0 : Int32).toNatClampNeg (vp_nar .byte (v >>> ((0 : Int32).toInt64 &&& 63)).toInt32.toInt8.toInt32)) (1 : Int32).toNatClampNeg (vp_nar .byte (v >>> ((8 : Int32).toInt64 &&& 63)).toInt32.toInt8.toInt32)) (2 : Int32).toNatClampNeg (vp_nar .byte (v >>> ((16 : Int32).toInt64 &&& 63)).toInt32.toInt8.toInt32)) (3 : Int32).toNatClampNeg (vp_nar .byte (v >>> ((24 : Int32).toInt64 &&& 63)).toInt32.toInt8.toInt32)) (4 : Int32).toNatClampNeg (vp_nar .byte (v >>> ((32 : Int32).toInt64 &&& 63)).toInt32.toInt8.toInt32)) (5 : Int32).toNatClampNeg (vp_nar .byte (v >>> ((40 : Int32).toInt64 &&& 63)).toInt32.toInt8.toInt32))))] H := hP
                                have hD : va_D A [(aX, .inr (5, [.ref bX, .int 6, .int (-1), .int 0, .int 0, .int 0, .long 0])), (bX, .inl (cB, 2000, .inl (upd (upd (upd (upd (upd (upd (fun _ => 0) (0 : Int32).toNatClampNeg (vp_nar .byte (v >>> ((0 : Int32).toInt64 &&& 63)).toInt32.toInt8.toInt32)) (1 : Int32).toNatClampNeg (vp_nar .byte (v >>> ((8 : Int32).toInt64 &&& 63)).toInt32.toInt8.toInt32)) (2 : Int32).toNatClampNeg (vp_nar .byte (v >>> ((16 : Int32).toInt64 &&& 63)).toInt32.toInt8.toInt32)) (3 : Int32).toNatClampNeg (vp_nar .byte (v >>> ((24 : Int32).toInt64 &&& 63)).toInt32.toInt8.toInt32)) (4 : Int32).toNatClampNeg (vp_nar .byte (v >>> ((32 : Int32).toInt64 &&& 63)).toInt32.toInt8.toInt32)) (5 : Int32).toNatClampNeg (vp_nar .byte (v >>> ((40 : Int32).toInt64 &&& 63)).toInt32.toInt8.toInt32))))] := hD
                                refine lv_iinc (v := 6) (lv' := [(4, .int 6), (0, .ref aX), (1, .long v), (3, .int 7)]) hx hb dX5_takeBytes_72 hl (k := 0) rfl (by decide) (by decide) rfl (fun ls hl => ?_)
                                refine lv_goto (tgt := 26) hx hb dX5_takeBytes_75 (by decide) ?_
                                refine lv_iload hx hb dX5_takeBytes_26 (lv_at hl 0 rfl) ?_
                                refine lv_iload_n hx hb dX5_takeBytes_28 rfl (lv_at hl 3 rfl) ?_
                                refine lv_icmp_ge (tgt := 78) hx hb dX5_takeBytes_29 (by decide) (fun c_29_135 => ?_) (fun c_29_135 => ?_)
                                · exact absurd c_29_135 (by decide)
                                · have t_29_135 := c_29_135
                                  try simp only [kb_eq0, kb_ne0, lg_cmp_lt, lg_cmp_le, lg_cmp_gt, lg_cmp_ge, lg_cmp_eq] at t_29_135
                                  try simp only [Int32.lt_iff_toInt_lt, Int32.le_iff_toInt_le, ← Int32.toInt_inj, Int64.lt_iff_toInt_lt, Int64.le_iff_toInt_le, ← Int64.toInt_inj, Int32.toInt_toInt64, Int32.reduceToInt, Int64.reduceToInt] at t_29_135
                                  refine lv_aload_n hx hb dX5_takeBytes_32 rfl (lv_at hl 1 rfl) ?_
                                  refine va_get (D := D) (ci := 5) (v := .int 6) (C := RX5) (T := TX5) (N := 7) hx hb hts iX5_takeBytes_X5 hown hK hP 0 rfl rfl 1 (by decide) (hts (.fieldLink RX5 19 "TapeCalculator$Text" "length" "I") (List.mem_of_getElem? (i := 1) rfl)) (fun _ h9 => h9) rfl dX5_takeBytes_33 ?_
                                  refine lv_aload_n hx hb dX5_takeBytes_36 rfl (lv_at hl 1 rfl) ?_
                                  refine va_get (D := D) (ci := 5) (v := .ref bX) (C := RX5) (T := TX5) (N := 7) hx hb hts iX5_takeBytes_X5 hown hK hP 0 rfl rfl 0 (by decide) (hts (.fieldLink RX5 9 "TapeCalculator$Text" "bytes" "[B") (List.mem_of_getElem? (i := 2) rfl)) (fun _ h9 => h9) rfl dX5_takeBytes_37 ?_
                                  refine va_alen hx hb hK hP 1 2 rfl rfl (v := 2000) rfl dX5_takeBytes_40 ?_
                                  refine lv_icmp_ge (tgt := 78) hx hb dX5_takeBytes_41 (by decide) (fun c_41_136 => ?_) (fun c_41_136 => ?_)
                                  · exact absurd c_41_136 (by decide)
                                  · have t_41_136 := c_41_136
                                    try simp only [kb_eq0, kb_ne0, lg_cmp_lt, lg_cmp_le, lg_cmp_gt, lg_cmp_ge, lg_cmp_eq] at t_41_136
                                    try simp only [Int32.lt_iff_toInt_lt, Int32.le_iff_toInt_le, ← Int32.toInt_inj, Int64.lt_iff_toInt_lt, Int64.le_iff_toInt_le, ← Int64.toInt_inj, Int32.toInt_toInt64, Int32.reduceToInt, Int64.reduceToInt] at t_41_136
                                    refine lv_aload_n hx hb dX5_takeBytes_44 rfl (lv_at hl 1 rfl) ?_
                                    refine va_get (D := D) (ci := 5) (v := .ref bX) (C := RX5) (T := TX5) (N := 7) hx hb hts iX5_takeBytes_X5 hown hK hP 0 rfl rfl 0 (by decide) (hts (.fieldLink RX5 9 "TapeCalculator$Text" "bytes" "[B") (List.mem_of_getElem? (i := 2) rfl)) (fun _ h9 => h9) rfl dX5_takeBytes_45 ?_
                                    refine lv_aload_n hx hb dX5_takeBytes_48 rfl (lv_at hl 1 rfl) ?_
                                    refine va_get (D := D) (ci := 5) (v := .int 6) (C := RX5) (T := TX5) (N := 7) hx hb hts iX5_takeBytes_X5 hown hK hP 0 rfl rfl 1 (by decide) (hts (.fieldLink RX5 19 "TapeCalculator$Text" "length" "I") (List.mem_of_getElem? (i := 1) rfl)) (fun _ h9 => h9) rfl dX5_takeBytes_49 ?_
                                    refine lv_lload_n hx hb dX5_takeBytes_52 rfl (lv_at hl 2 rfl) ?_
                                    refine lv_bipush (v := 8) hx hb dX5_takeBytes_53 (by decide) ?_
                                    refine lv_iload hx hb dX5_takeBytes_55 (lv_at hl 0 rfl) ?_
                                    refine lv_imul hx hb dX5_takeBytes_57 ?_
                                    refine lv_topi (fun x_138 ex_138 => ?_)
                                    obtain rfl : x_138 = 48 := ex_138.trans (by decide)
                                    refine lv_lshr hx hb dX5_takeBytes_58 rfl ?_
                                    refine lv_l2i hx hb dX5_takeBytes_59 rfl ?_
                                    refine lv_i2b hx hb dX5_takeBytes_60 rfl ?_
                                    refine va_bast hx hb hK hP hD hS 1 2 rfl rfl (vp_in_iff.mpr (by decide)) dX5_takeBytes_61 (fun H locs hP hD hS => ?_)
                                    have hP : va_P D vwCl [(aX, .inr (5, [.ref bX, .int 6, .int (-1), .int 0, .int 0, .int 0, .long 0])), (bX, .inl (cB, 2000, .inl (upd (upd (upd (upd (upd (upd (upd (fun _ => 0) (0 : Int32).toNatClampNeg (vp_nar .byte (v >>> ((0 : Int32).toInt64 &&& 63)).toInt32.toInt8.toInt32)) (1 : Int32).toNatClampNeg (vp_nar .byte (v >>> ((8 : Int32).toInt64 &&& 63)).toInt32.toInt8.toInt32)) (2 : Int32).toNatClampNeg (vp_nar .byte (v >>> ((16 : Int32).toInt64 &&& 63)).toInt32.toInt8.toInt32)) (3 : Int32).toNatClampNeg (vp_nar .byte (v >>> ((24 : Int32).toInt64 &&& 63)).toInt32.toInt8.toInt32)) (4 : Int32).toNatClampNeg (vp_nar .byte (v >>> ((32 : Int32).toInt64 &&& 63)).toInt32.toInt8.toInt32)) (5 : Int32).toNatClampNeg (vp_nar .byte (v >>> ((40 : Int32).toInt64 &&& 63)).toInt32.toInt8.toInt32)) (6 : Int32).toNatClampNeg (vp_nar .byte (v >>> ((48 : Int32).toInt64 &&& 63)).toInt32.toInt8.toInt32))))] H := hP
                                    have hD : va_D A [(aX, .inr (5, [.ref bX, .int 6, .int (-1), .int 0, .int 0, .int 0, .long 0])), (bX, .inl (cB, 2000, .inl (upd (upd (upd (upd (upd (upd (upd (fun _ => 0) (0 : Int32).toNatClampNeg (vp_nar .byte (v >>> ((0 : Int32).toInt64 &&& 63)).toInt32.toInt8.toInt32)) (1 : Int32).toNatClampNeg (vp_nar .byte (v >>> ((8 : Int32).toInt64 &&& 63)).toInt32.toInt8.toInt32)) (2 : Int32).toNatClampNeg (vp_nar .byte (v >>> ((16 : Int32).toInt64 &&& 63)).toInt32.toInt8.toInt32)) (3 : Int32).toNatClampNeg (vp_nar .byte (v >>> ((24 : Int32).toInt64 &&& 63)).toInt32.toInt8.toInt32)) (4 : Int32).toNatClampNeg (vp_nar .byte (v >>> ((32 : Int32).toInt64 &&& 63)).toInt32.toInt8.toInt32)) (5 : Int32).toNatClampNeg (vp_nar .byte (v >>> ((40 : Int32).toInt64 &&& 63)).toInt32.toInt8.toInt32)) (6 : Int32).toNatClampNeg (vp_nar .byte (v >>> ((48 : Int32).toInt64 &&& 63)).toInt32.toInt8.toInt32))))] := hD
                                    refine lv_aload_n hx hb dX5_takeBytes_62 rfl (lv_at hl 1 rfl) ?_
                                    refine lv_dup hx hb dX5_takeBytes_63 rfl ?_
                                    refine va_get (D := D) (ci := 5) (v := .int 6) (C := RX5) (T := TX5) (N := 7) hx hb hts iX5_takeBytes_X5 hown hK hP 0 rfl rfl 1 (by decide) (hts (.fieldLink RX5 19 "TapeCalculator$Text" "length" "I") (List.mem_of_getElem? (i := 1) rfl)) (fun _ h9 => h9) rfl dX5_takeBytes_64 ?_
                                    refine lv_iconst (v := 1) hx hb dX5_takeBytes_67 (by decide) ?_
                                    refine lv_iadd hx hb dX5_takeBytes_68 ?_
                                    refine lv_topi (fun x_139 ex_139 => ?_)
                                    obtain rfl : x_139 = 7 := ex_139.trans (by decide)
                                    refine va_put (D := D) (ci := 5) (v := .int 7) (ty := .int) (C := RX5) (T := TX5) (N := 7) hx hb hts iX5_takeBytes_X5 tyX5 tyX5_ok nmX5 hown hK hP hD hS 0 rfl rfl 1 (by decide) (hts (.fieldLink RX5 19 "TapeCalculator$Text" "length" "I") (List.mem_of_getElem? (i := 1) rfl)) (fun _ h9 => h9) rfl (by decide +kernel) rfl rfl (Nat.le_of_ble_eq_true rfl) dX5_takeBytes_69 (fun H locs hP hD hS => ?_)
                                    have hP : va_P D vwCl [(aX, .inr (5, [.ref bX, .int 7, .int (-1), .int 0, .int 0, .int 0, .long 0])), (bX, .inl (cB, 2000, .inl (upd (upd (upd (upd (upd (upd (upd (fun _ => 0) (0 : Int32).toNatClampNeg (vp_nar .byte (v >>> ((0 : Int32).toInt64 &&& 63)).toInt32.toInt8.toInt32)) (1 : Int32).toNatClampNeg (vp_nar .byte (v >>> ((8 : Int32).toInt64 &&& 63)).toInt32.toInt8.toInt32)) (2 : Int32).toNatClampNeg (vp_nar .byte (v >>> ((16 : Int32).toInt64 &&& 63)).toInt32.toInt8.toInt32)) (3 : Int32).toNatClampNeg (vp_nar .byte (v >>> ((24 : Int32).toInt64 &&& 63)).toInt32.toInt8.toInt32)) (4 : Int32).toNatClampNeg (vp_nar .byte (v >>> ((32 : Int32).toInt64 &&& 63)).toInt32.toInt8.toInt32)) (5 : Int32).toNatClampNeg (vp_nar .byte (v >>> ((40 : Int32).toInt64 &&& 63)).toInt32.toInt8.toInt32)) (6 : Int32).toNatClampNeg (vp_nar .byte (v >>> ((48 : Int32).toInt64 &&& 63)).toInt32.toInt8.toInt32))))] H := hP
                                    have hD : va_D A [(aX, .inr (5, [.ref bX, .int 7, .int (-1), .int 0, .int 0, .int 0, .long 0])), (bX, .inl (cB, 2000, .inl (upd (upd (upd (upd (upd (upd (upd (fun _ => 0) (0 : Int32).toNatClampNeg (vp_nar .byte (v >>> ((0 : Int32).toInt64 &&& 63)).toInt32.toInt8.toInt32)) (1 : Int32).toNatClampNeg (vp_nar .byte (v >>> ((8 : Int32).toInt64 &&& 63)).toInt32.toInt8.toInt32)) (2 : Int32).toNatClampNeg (vp_nar .byte (v >>> ((16 : Int32).toInt64 &&& 63)).toInt32.toInt8.toInt32)) (3 : Int32).toNatClampNeg (vp_nar .byte (v >>> ((24 : Int32).toInt64 &&& 63)).toInt32.toInt8.toInt32)) (4 : Int32).toNatClampNeg (vp_nar .byte (v >>> ((32 : Int32).toInt64 &&& 63)).toInt32.toInt8.toInt32)) (5 : Int32).toNatClampNeg (vp_nar .byte (v >>> ((40 : Int32).toInt64 &&& 63)).toInt32.toInt8.toInt32)) (6 : Int32).toNatClampNeg (vp_nar .byte (v >>> ((48 : Int32).toInt64 &&& 63)).toInt32.toInt8.toInt32))))] := hD
                                    refine lv_iinc (v := 7) (lv' := [(4, .int 7), (0, .ref aX), (1, .long v), (3, .int 7)]) hx hb dX5_takeBytes_72 hl (k := 0) rfl (by decide) (by decide) rfl (fun ls hl => ?_)
                                    refine lv_goto (tgt := 26) hx hb dX5_takeBytes_75 (by decide) ?_
                                    refine lv_iload hx hb dX5_takeBytes_26 (lv_at hl 0 rfl) ?_
                                    refine lv_iload_n hx hb dX5_takeBytes_28 rfl (lv_at hl 3 rfl) ?_
                                    refine lv_icmp_ge (tgt := 78) hx hb dX5_takeBytes_29 (by decide) (fun c_29_139 => ?_) (fun c_29_139 => ?_)
                                    · have t_29_139 := c_29_139
                                      try simp only [kb_eq0, kb_ne0, lg_cmp_lt, lg_cmp_le, lg_cmp_gt, lg_cmp_ge, lg_cmp_eq] at t_29_139
                                      try simp only [Int32.lt_iff_toInt_lt, Int32.le_iff_toInt_le, ← Int32.toInt_inj, Int64.lt_iff_toInt_lt, Int64.le_iff_toInt_le, ← Int64.toInt_inj, Int32.toInt_toInt64, Int32.reduceToInt, Int64.reduceToInt] at t_29_139
                                      refine lv_iconst (v := 1) hx hb dX5_takeBytes_78 (by decide) ?_
                                      refine kIret (u := (upd (upd (upd (upd (upd (upd (upd (fun _ => 0) (0 : Int32).toNatClampNeg (vp_nar .byte (v >>> ((0 : Int32).toInt64 &&& 63)).toInt32.toInt8.toInt32)) (1 : Int32).toNatClampNeg (vp_nar .byte (v >>> ((8 : Int32).toInt64 &&& 63)).toInt32.toInt8.toInt32)) (2 : Int32).toNatClampNeg (vp_nar .byte (v >>> ((16 : Int32).toInt64 &&& 63)).toInt32.toInt8.toInt32)) (3 : Int32).toNatClampNeg (vp_nar .byte (v >>> ((24 : Int32).toInt64 &&& 63)).toInt32.toInt8.toInt32)) (4 : Int32).toNatClampNeg (vp_nar .byte (v >>> ((32 : Int32).toInt64 &&& 63)).toInt32.toInt8.toInt32)) (5 : Int32).toNatClampNeg (vp_nar .byte (v >>> ((40 : Int32).toInt64 &&& 63)).toInt32.toInt8.toInt32)) (6 : Int32).toNatClampNeg (vp_nar .byte (v >>> ((48 : Int32).toInt64 &&& 63)).toInt32.toInt8.toInt32))) hx hb hr rfl hlocks hS dX5_takeBytes_79 ?_ (hP.sub [0, 1] rfl) (hD.sub [0, 1] (by decide) rfl)
                                      exact rfl
                                    · exact absurd (by decide) c_29_139
      · exact absurd (by decide) c_18_110
  · refine lv_aload_n hx hb dX5_takeBytes_0 rfl (lv_at hl 0 rfl) ?_
    refine va_get (D := D) (ci := 5) (v := .int 0) (C := RX5) (T := TX5) (N := 7) hx hb hts iX5_takeBytes_X5 hown hK hP 0 rfl rfl 1 (by decide) (hts (.fieldLink RX5 19 "TapeCalculator$Text" "length" "I") (List.mem_of_getElem? (i := 1) rfl)) (fun _ h9 => h9) rfl dX5_takeBytes_1 ?_
    refine lv_if_lt (tgt := 21) hx hb dX5_takeBytes_4 (by decide) (fun c_4_140 => ?_) (fun c_4_140 => ?_)
    · exact absurd c_4_140 (by decide)
    · have t_4_140 := c_4_140
      try simp only [kb_eq0, kb_ne0, lg_cmp_lt, lg_cmp_le, lg_cmp_gt, lg_cmp_ge, lg_cmp_eq] at t_4_140
      try simp only [Int32.lt_iff_toInt_lt, Int32.le_iff_toInt_le, ← Int32.toInt_inj, Int64.lt_iff_toInt_lt, Int64.le_iff_toInt_le, ← Int64.toInt_inj, Int32.toInt_toInt64, Int32.reduceToInt, Int64.reduceToInt] at t_4_140
      refine lv_aload_n hx hb dX5_takeBytes_7 rfl (lv_at hl 0 rfl) ?_
      refine va_get (D := D) (ci := 5) (v := .int 0) (C := RX5) (T := TX5) (N := 7) hx hb hts iX5_takeBytes_X5 hown hK hP 0 rfl rfl 1 (by decide) (hts (.fieldLink RX5 19 "TapeCalculator$Text" "length" "I") (List.mem_of_getElem? (i := 1) rfl)) (fun _ h9 => h9) rfl dX5_takeBytes_8 ?_
      refine lv_iload_n hx hb dX5_takeBytes_11 rfl (lv_at hl 2 rfl) ?_
      refine lv_iadd hx hb dX5_takeBytes_12 ?_
      refine lv_topi (fun x_142 ex_142 => ?_)
      obtain rfl : x_142 = 8 := ex_142.trans (by decide)
      refine lv_aload_n hx hb dX5_takeBytes_13 rfl (lv_at hl 0 rfl) ?_
      refine va_get (D := D) (ci := 5) (v := .ref bX) (C := RX5) (T := TX5) (N := 7) hx hb hts iX5_takeBytes_X5 hown hK hP 0 rfl rfl 0 (by decide) (hts (.fieldLink RX5 9 "TapeCalculator$Text" "bytes" "[B") (List.mem_of_getElem? (i := 2) rfl)) (fun _ h9 => h9) rfl dX5_takeBytes_14 ?_
      refine va_alen hx hb hK hP 1 2 rfl rfl (v := 2000) rfl dX5_takeBytes_17 ?_
      refine lv_icmp_le (tgt := 23) hx hb dX5_takeBytes_18 (by decide) (fun c_18_142 => ?_) (fun c_18_142 => ?_)
      · have t_18_142 := c_18_142
        try simp only [kb_eq0, kb_ne0, lg_cmp_lt, lg_cmp_le, lg_cmp_gt, lg_cmp_ge, lg_cmp_eq] at t_18_142
        try simp only [Int32.lt_iff_toInt_lt, Int32.le_iff_toInt_le, ← Int32.toInt_inj, Int64.lt_iff_toInt_lt, Int64.le_iff_toInt_le, ← Int64.toInt_inj, Int32.toInt_toInt64, Int32.reduceToInt, Int64.reduceToInt] at t_18_142
        refine lv_iconst (v := 0) hx hb dX5_takeBytes_23 (by decide) ?_
        refine lv_istore (lv' := [(4, .int 0), (0, .ref aX), (1, .long v), (3, .int 8)]) hx hb dX5_takeBytes_24 hl (by decide) rfl (fun ls hl => ?_)
        refine lv_iload hx hb dX5_takeBytes_26 (lv_at hl 0 rfl) ?_
        refine lv_iload_n hx hb dX5_takeBytes_28 rfl (lv_at hl 3 rfl) ?_
        refine lv_icmp_ge (tgt := 78) hx hb dX5_takeBytes_29 (by decide) (fun c_29_143 => ?_) (fun c_29_143 => ?_)
        · exact absurd c_29_143 (by decide)
        · have t_29_143 := c_29_143
          try simp only [kb_eq0, kb_ne0, lg_cmp_lt, lg_cmp_le, lg_cmp_gt, lg_cmp_ge, lg_cmp_eq] at t_29_143
          try simp only [Int32.lt_iff_toInt_lt, Int32.le_iff_toInt_le, ← Int32.toInt_inj, Int64.lt_iff_toInt_lt, Int64.le_iff_toInt_le, ← Int64.toInt_inj, Int32.toInt_toInt64, Int32.reduceToInt, Int64.reduceToInt] at t_29_143
          refine lv_aload_n hx hb dX5_takeBytes_32 rfl (lv_at hl 1 rfl) ?_
          refine va_get (D := D) (ci := 5) (v := .int 0) (C := RX5) (T := TX5) (N := 7) hx hb hts iX5_takeBytes_X5 hown hK hP 0 rfl rfl 1 (by decide) (hts (.fieldLink RX5 19 "TapeCalculator$Text" "length" "I") (List.mem_of_getElem? (i := 1) rfl)) (fun _ h9 => h9) rfl dX5_takeBytes_33 ?_
          refine lv_aload_n hx hb dX5_takeBytes_36 rfl (lv_at hl 1 rfl) ?_
          refine va_get (D := D) (ci := 5) (v := .ref bX) (C := RX5) (T := TX5) (N := 7) hx hb hts iX5_takeBytes_X5 hown hK hP 0 rfl rfl 0 (by decide) (hts (.fieldLink RX5 9 "TapeCalculator$Text" "bytes" "[B") (List.mem_of_getElem? (i := 2) rfl)) (fun _ h9 => h9) rfl dX5_takeBytes_37 ?_
          refine va_alen hx hb hK hP 1 2 rfl rfl (v := 2000) rfl dX5_takeBytes_40 ?_
          refine lv_icmp_ge (tgt := 78) hx hb dX5_takeBytes_41 (by decide) (fun c_41_144 => ?_) (fun c_41_144 => ?_)
          · exact absurd c_41_144 (by decide)
          · have t_41_144 := c_41_144
            try simp only [kb_eq0, kb_ne0, lg_cmp_lt, lg_cmp_le, lg_cmp_gt, lg_cmp_ge, lg_cmp_eq] at t_41_144
            try simp only [Int32.lt_iff_toInt_lt, Int32.le_iff_toInt_le, ← Int32.toInt_inj, Int64.lt_iff_toInt_lt, Int64.le_iff_toInt_le, ← Int64.toInt_inj, Int32.toInt_toInt64, Int32.reduceToInt, Int64.reduceToInt] at t_41_144
            refine lv_aload_n hx hb dX5_takeBytes_44 rfl (lv_at hl 1 rfl) ?_
            refine va_get (D := D) (ci := 5) (v := .ref bX) (C := RX5) (T := TX5) (N := 7) hx hb hts iX5_takeBytes_X5 hown hK hP 0 rfl rfl 0 (by decide) (hts (.fieldLink RX5 9 "TapeCalculator$Text" "bytes" "[B") (List.mem_of_getElem? (i := 2) rfl)) (fun _ h9 => h9) rfl dX5_takeBytes_45 ?_
            refine lv_aload_n hx hb dX5_takeBytes_48 rfl (lv_at hl 1 rfl) ?_
            refine va_get (D := D) (ci := 5) (v := .int 0) (C := RX5) (T := TX5) (N := 7) hx hb hts iX5_takeBytes_X5 hown hK hP 0 rfl rfl 1 (by decide) (hts (.fieldLink RX5 19 "TapeCalculator$Text" "length" "I") (List.mem_of_getElem? (i := 1) rfl)) (fun _ h9 => h9) rfl dX5_takeBytes_49 ?_
            refine lv_lload_n hx hb dX5_takeBytes_52 rfl (lv_at hl 2 rfl) ?_
            refine lv_bipush (v := 8) hx hb dX5_takeBytes_53 (by decide) ?_
            refine lv_iload hx hb dX5_takeBytes_55 (lv_at hl 0 rfl) ?_
            refine lv_imul hx hb dX5_takeBytes_57 ?_
            refine lv_topi (fun x_146 ex_146 => ?_)
            obtain rfl : x_146 = 0 := ex_146.trans (by decide)
            refine lv_lshr hx hb dX5_takeBytes_58 rfl ?_
            refine lv_l2i hx hb dX5_takeBytes_59 rfl ?_
            refine lv_i2b hx hb dX5_takeBytes_60 rfl ?_
            refine va_bast hx hb hK hP hD hS 1 2 rfl rfl (vp_in_iff.mpr (by decide)) dX5_takeBytes_61 (fun H locs hP hD hS => ?_)
            have hP : va_P D vwCl [(aX, .inr (5, [.ref bX, .int 0, .int (-1), .int 0, .int 0, .int 0, .long 0])), (bX, .inl (cB, 2000, .inl (upd (fun _ => 0) (0 : Int32).toNatClampNeg (vp_nar .byte (v >>> ((0 : Int32).toInt64 &&& 63)).toInt32.toInt8.toInt32))))] H := hP
            have hD : va_D A [(aX, .inr (5, [.ref bX, .int 0, .int (-1), .int 0, .int 0, .int 0, .long 0])), (bX, .inl (cB, 2000, .inl (upd (fun _ => 0) (0 : Int32).toNatClampNeg (vp_nar .byte (v >>> ((0 : Int32).toInt64 &&& 63)).toInt32.toInt8.toInt32))))] := hD
            refine lv_aload_n hx hb dX5_takeBytes_62 rfl (lv_at hl 1 rfl) ?_
            refine lv_dup hx hb dX5_takeBytes_63 rfl ?_
            refine va_get (D := D) (ci := 5) (v := .int 0) (C := RX5) (T := TX5) (N := 7) hx hb hts iX5_takeBytes_X5 hown hK hP 0 rfl rfl 1 (by decide) (hts (.fieldLink RX5 19 "TapeCalculator$Text" "length" "I") (List.mem_of_getElem? (i := 1) rfl)) (fun _ h9 => h9) rfl dX5_takeBytes_64 ?_
            refine lv_iconst (v := 1) hx hb dX5_takeBytes_67 (by decide) ?_
            refine lv_iadd hx hb dX5_takeBytes_68 ?_
            refine lv_topi (fun x_147 ex_147 => ?_)
            obtain rfl : x_147 = 1 := ex_147.trans (by decide)
            refine va_put (D := D) (ci := 5) (v := .int 1) (ty := .int) (C := RX5) (T := TX5) (N := 7) hx hb hts iX5_takeBytes_X5 tyX5 tyX5_ok nmX5 hown hK hP hD hS 0 rfl rfl 1 (by decide) (hts (.fieldLink RX5 19 "TapeCalculator$Text" "length" "I") (List.mem_of_getElem? (i := 1) rfl)) (fun _ h9 => h9) rfl (by decide +kernel) rfl rfl (Nat.le_of_ble_eq_true rfl) dX5_takeBytes_69 (fun H locs hP hD hS => ?_)
            have hP : va_P D vwCl [(aX, .inr (5, [.ref bX, .int 1, .int (-1), .int 0, .int 0, .int 0, .long 0])), (bX, .inl (cB, 2000, .inl (upd (fun _ => 0) (0 : Int32).toNatClampNeg (vp_nar .byte (v >>> ((0 : Int32).toInt64 &&& 63)).toInt32.toInt8.toInt32))))] H := hP
            have hD : va_D A [(aX, .inr (5, [.ref bX, .int 1, .int (-1), .int 0, .int 0, .int 0, .long 0])), (bX, .inl (cB, 2000, .inl (upd (fun _ => 0) (0 : Int32).toNatClampNeg (vp_nar .byte (v >>> ((0 : Int32).toInt64 &&& 63)).toInt32.toInt8.toInt32))))] := hD
            refine lv_iinc (v := 1) (lv' := [(4, .int 1), (0, .ref aX), (1, .long v), (3, .int 8)]) hx hb dX5_takeBytes_72 hl (k := 0) rfl (by decide) (by decide) rfl (fun ls hl => ?_)
            refine lv_goto (tgt := 26) hx hb dX5_takeBytes_75 (by decide) ?_
            refine lv_iload hx hb dX5_takeBytes_26 (lv_at hl 0 rfl) ?_
            refine lv_iload_n hx hb dX5_takeBytes_28 rfl (lv_at hl 3 rfl) ?_
            refine lv_icmp_ge (tgt := 78) hx hb dX5_takeBytes_29 (by decide) (fun c_29_147 => ?_) (fun c_29_147 => ?_)
            · exact absurd c_29_147 (by decide)
            · have t_29_147 := c_29_147
              try simp only [kb_eq0, kb_ne0, lg_cmp_lt, lg_cmp_le, lg_cmp_gt, lg_cmp_ge, lg_cmp_eq] at t_29_147
              try simp only [Int32.lt_iff_toInt_lt, Int32.le_iff_toInt_le, ← Int32.toInt_inj, Int64.lt_iff_toInt_lt, Int64.le_iff_toInt_le, ← Int64.toInt_inj, Int32.toInt_toInt64, Int32.reduceToInt, Int64.reduceToInt] at t_29_147
              refine lv_aload_n hx hb dX5_takeBytes_32 rfl (lv_at hl 1 rfl) ?_
              refine va_get (D := D) (ci := 5) (v := .int 1) (C := RX5) (T := TX5) (N := 7) hx hb hts iX5_takeBytes_X5 hown hK hP 0 rfl rfl 1 (by decide) (hts (.fieldLink RX5 19 "TapeCalculator$Text" "length" "I") (List.mem_of_getElem? (i := 1) rfl)) (fun _ h9 => h9) rfl dX5_takeBytes_33 ?_
              refine lv_aload_n hx hb dX5_takeBytes_36 rfl (lv_at hl 1 rfl) ?_
              refine va_get (D := D) (ci := 5) (v := .ref bX) (C := RX5) (T := TX5) (N := 7) hx hb hts iX5_takeBytes_X5 hown hK hP 0 rfl rfl 0 (by decide) (hts (.fieldLink RX5 9 "TapeCalculator$Text" "bytes" "[B") (List.mem_of_getElem? (i := 2) rfl)) (fun _ h9 => h9) rfl dX5_takeBytes_37 ?_
              refine va_alen hx hb hK hP 1 2 rfl rfl (v := 2000) rfl dX5_takeBytes_40 ?_
              refine lv_icmp_ge (tgt := 78) hx hb dX5_takeBytes_41 (by decide) (fun c_41_148 => ?_) (fun c_41_148 => ?_)
              · exact absurd c_41_148 (by decide)
              · have t_41_148 := c_41_148
                try simp only [kb_eq0, kb_ne0, lg_cmp_lt, lg_cmp_le, lg_cmp_gt, lg_cmp_ge, lg_cmp_eq] at t_41_148
                try simp only [Int32.lt_iff_toInt_lt, Int32.le_iff_toInt_le, ← Int32.toInt_inj, Int64.lt_iff_toInt_lt, Int64.le_iff_toInt_le, ← Int64.toInt_inj, Int32.toInt_toInt64, Int32.reduceToInt, Int64.reduceToInt] at t_41_148
                refine lv_aload_n hx hb dX5_takeBytes_44 rfl (lv_at hl 1 rfl) ?_
                refine va_get (D := D) (ci := 5) (v := .ref bX) (C := RX5) (T := TX5) (N := 7) hx hb hts iX5_takeBytes_X5 hown hK hP 0 rfl rfl 0 (by decide) (hts (.fieldLink RX5 9 "TapeCalculator$Text" "bytes" "[B") (List.mem_of_getElem? (i := 2) rfl)) (fun _ h9 => h9) rfl dX5_takeBytes_45 ?_
                refine lv_aload_n hx hb dX5_takeBytes_48 rfl (lv_at hl 1 rfl) ?_
                refine va_get (D := D) (ci := 5) (v := .int 1) (C := RX5) (T := TX5) (N := 7) hx hb hts iX5_takeBytes_X5 hown hK hP 0 rfl rfl 1 (by decide) (hts (.fieldLink RX5 19 "TapeCalculator$Text" "length" "I") (List.mem_of_getElem? (i := 1) rfl)) (fun _ h9 => h9) rfl dX5_takeBytes_49 ?_
                refine lv_lload_n hx hb dX5_takeBytes_52 rfl (lv_at hl 2 rfl) ?_
                refine lv_bipush (v := 8) hx hb dX5_takeBytes_53 (by decide) ?_
                refine lv_iload hx hb dX5_takeBytes_55 (lv_at hl 0 rfl) ?_
                refine lv_imul hx hb dX5_takeBytes_57 ?_
                refine lv_topi (fun x_150 ex_150 => ?_)
                obtain rfl : x_150 = 8 := ex_150.trans (by decide)
                refine lv_lshr hx hb dX5_takeBytes_58 rfl ?_
                refine lv_l2i hx hb dX5_takeBytes_59 rfl ?_
                refine lv_i2b hx hb dX5_takeBytes_60 rfl ?_
                refine va_bast hx hb hK hP hD hS 1 2 rfl rfl (vp_in_iff.mpr (by decide)) dX5_takeBytes_61 (fun H locs hP hD hS => ?_)
                have hP : va_P D vwCl [(aX, .inr (5, [.ref bX, .int 1, .int (-1), .int 0, .int 0, .int 0, .long 0])), (bX, .inl (cB, 2000, .inl (upd (upd (fun _ => 0) (0 : Int32).toNatClampNeg (vp_nar .byte (v >>> ((0 : Int32).toInt64 &&& 63)).toInt32.toInt8.toInt32)) (1 : Int32).toNatClampNeg (vp_nar .byte (v >>> ((8 : Int32).toInt64 &&& 63)).toInt32.toInt8.toInt32))))] H := hP
                have hD : va_D A [(aX, .inr (5, [.ref bX, .int 1, .int (-1), .int 0, .int 0, .int 0, .long 0])), (bX, .inl (cB, 2000, .inl (upd (upd (fun _ => 0) (0 : Int32).toNatClampNeg (vp_nar .byte (v >>> ((0 : Int32).toInt64 &&& 63)).toInt32.toInt8.toInt32)) (1 : Int32).toNatClampNeg (vp_nar .byte (v >>> ((8 : Int32).toInt64 &&& 63)).toInt32.toInt8.toInt32))))] := hD
                refine lv_aload_n hx hb dX5_takeBytes_62 rfl (lv_at hl 1 rfl) ?_
                refine lv_dup hx hb dX5_takeBytes_63 rfl ?_
                refine va_get (D := D) (ci := 5) (v := .int 1) (C := RX5) (T := TX5) (N := 7) hx hb hts iX5_takeBytes_X5 hown hK hP 0 rfl rfl 1 (by decide) (hts (.fieldLink RX5 19 "TapeCalculator$Text" "length" "I") (List.mem_of_getElem? (i := 1) rfl)) (fun _ h9 => h9) rfl dX5_takeBytes_64 ?_
                refine lv_iconst (v := 1) hx hb dX5_takeBytes_67 (by decide) ?_
                refine lv_iadd hx hb dX5_takeBytes_68 ?_
                refine lv_topi (fun x_151 ex_151 => ?_)
                obtain rfl : x_151 = 2 := ex_151.trans (by decide)
                refine va_put (D := D) (ci := 5) (v := .int 2) (ty := .int) (C := RX5) (T := TX5) (N := 7) hx hb hts iX5_takeBytes_X5 tyX5 tyX5_ok nmX5 hown hK hP hD hS 0 rfl rfl 1 (by decide) (hts (.fieldLink RX5 19 "TapeCalculator$Text" "length" "I") (List.mem_of_getElem? (i := 1) rfl)) (fun _ h9 => h9) rfl (by decide +kernel) rfl rfl (Nat.le_of_ble_eq_true rfl) dX5_takeBytes_69 (fun H locs hP hD hS => ?_)
                have hP : va_P D vwCl [(aX, .inr (5, [.ref bX, .int 2, .int (-1), .int 0, .int 0, .int 0, .long 0])), (bX, .inl (cB, 2000, .inl (upd (upd (fun _ => 0) (0 : Int32).toNatClampNeg (vp_nar .byte (v >>> ((0 : Int32).toInt64 &&& 63)).toInt32.toInt8.toInt32)) (1 : Int32).toNatClampNeg (vp_nar .byte (v >>> ((8 : Int32).toInt64 &&& 63)).toInt32.toInt8.toInt32))))] H := hP
                have hD : va_D A [(aX, .inr (5, [.ref bX, .int 2, .int (-1), .int 0, .int 0, .int 0, .long 0])), (bX, .inl (cB, 2000, .inl (upd (upd (fun _ => 0) (0 : Int32).toNatClampNeg (vp_nar .byte (v >>> ((0 : Int32).toInt64 &&& 63)).toInt32.toInt8.toInt32)) (1 : Int32).toNatClampNeg (vp_nar .byte (v >>> ((8 : Int32).toInt64 &&& 63)).toInt32.toInt8.toInt32))))] := hD
                refine lv_iinc (v := 2) (lv' := [(4, .int 2), (0, .ref aX), (1, .long v), (3, .int 8)]) hx hb dX5_takeBytes_72 hl (k := 0) rfl (by decide) (by decide) rfl (fun ls hl => ?_)
                refine lv_goto (tgt := 26) hx hb dX5_takeBytes_75 (by decide) ?_
                refine lv_iload hx hb dX5_takeBytes_26 (lv_at hl 0 rfl) ?_
                refine lv_iload_n hx hb dX5_takeBytes_28 rfl (lv_at hl 3 rfl) ?_
                refine lv_icmp_ge (tgt := 78) hx hb dX5_takeBytes_29 (by decide) (fun c_29_151 => ?_) (fun c_29_151 => ?_)
                · exact absurd c_29_151 (by decide)
                · have t_29_151 := c_29_151
                  try simp only [kb_eq0, kb_ne0, lg_cmp_lt, lg_cmp_le, lg_cmp_gt, lg_cmp_ge, lg_cmp_eq] at t_29_151
                  try simp only [Int32.lt_iff_toInt_lt, Int32.le_iff_toInt_le, ← Int32.toInt_inj, Int64.lt_iff_toInt_lt, Int64.le_iff_toInt_le, ← Int64.toInt_inj, Int32.toInt_toInt64, Int32.reduceToInt, Int64.reduceToInt] at t_29_151
                  refine lv_aload_n hx hb dX5_takeBytes_32 rfl (lv_at hl 1 rfl) ?_
                  refine va_get (D := D) (ci := 5) (v := .int 2) (C := RX5) (T := TX5) (N := 7) hx hb hts iX5_takeBytes_X5 hown hK hP 0 rfl rfl 1 (by decide) (hts (.fieldLink RX5 19 "TapeCalculator$Text" "length" "I") (List.mem_of_getElem? (i := 1) rfl)) (fun _ h9 => h9) rfl dX5_takeBytes_33 ?_
                  refine lv_aload_n hx hb dX5_takeBytes_36 rfl (lv_at hl 1 rfl) ?_
                  refine va_get (D := D) (ci := 5) (v := .ref bX) (C := RX5) (T := TX5) (N := 7) hx hb hts iX5_takeBytes_X5 hown hK hP 0 rfl rfl 0 (by decide) (hts (.fieldLink RX5 9 "TapeCalculator$Text" "bytes" "[B") (List.mem_of_getElem? (i := 2) rfl)) (fun _ h9 => h9) rfl dX5_takeBytes_37 ?_
                  refine va_alen hx hb hK hP 1 2 rfl rfl (v := 2000) rfl dX5_takeBytes_40 ?_
                  refine lv_icmp_ge (tgt := 78) hx hb dX5_takeBytes_41 (by decide) (fun c_41_152 => ?_) (fun c_41_152 => ?_)
                  · exact absurd c_41_152 (by decide)
                  · have t_41_152 := c_41_152
                    try simp only [kb_eq0, kb_ne0, lg_cmp_lt, lg_cmp_le, lg_cmp_gt, lg_cmp_ge, lg_cmp_eq] at t_41_152
                    try simp only [Int32.lt_iff_toInt_lt, Int32.le_iff_toInt_le, ← Int32.toInt_inj, Int64.lt_iff_toInt_lt, Int64.le_iff_toInt_le, ← Int64.toInt_inj, Int32.toInt_toInt64, Int32.reduceToInt, Int64.reduceToInt] at t_41_152
                    refine lv_aload_n hx hb dX5_takeBytes_44 rfl (lv_at hl 1 rfl) ?_
                    refine va_get (D := D) (ci := 5) (v := .ref bX) (C := RX5) (T := TX5) (N := 7) hx hb hts iX5_takeBytes_X5 hown hK hP 0 rfl rfl 0 (by decide) (hts (.fieldLink RX5 9 "TapeCalculator$Text" "bytes" "[B") (List.mem_of_getElem? (i := 2) rfl)) (fun _ h9 => h9) rfl dX5_takeBytes_45 ?_
                    refine lv_aload_n hx hb dX5_takeBytes_48 rfl (lv_at hl 1 rfl) ?_
                    refine va_get (D := D) (ci := 5) (v := .int 2) (C := RX5) (T := TX5) (N := 7) hx hb hts iX5_takeBytes_X5 hown hK hP 0 rfl rfl 1 (by decide) (hts (.fieldLink RX5 19 "TapeCalculator$Text" "length" "I") (List.mem_of_getElem? (i := 1) rfl)) (fun _ h9 => h9) rfl dX5_takeBytes_49 ?_
                    refine lv_lload_n hx hb dX5_takeBytes_52 rfl (lv_at hl 2 rfl) ?_
                    refine lv_bipush (v := 8) hx hb dX5_takeBytes_53 (by decide) ?_
                    refine lv_iload hx hb dX5_takeBytes_55 (lv_at hl 0 rfl) ?_
                    refine lv_imul hx hb dX5_takeBytes_57 ?_
                    refine lv_topi (fun x_154 ex_154 => ?_)
                    obtain rfl : x_154 = 16 := ex_154.trans (by decide)
                    refine lv_lshr hx hb dX5_takeBytes_58 rfl ?_
                    refine lv_l2i hx hb dX5_takeBytes_59 rfl ?_
                    refine lv_i2b hx hb dX5_takeBytes_60 rfl ?_
                    refine va_bast hx hb hK hP hD hS 1 2 rfl rfl (vp_in_iff.mpr (by decide)) dX5_takeBytes_61 (fun H locs hP hD hS => ?_)
                    have hP : va_P D vwCl [(aX, .inr (5, [.ref bX, .int 2, .int (-1), .int 0, .int 0, .int 0, .long 0])), (bX, .inl (cB, 2000, .inl (upd (upd (upd (fun _ => 0) (0 : Int32).toNatClampNeg (vp_nar .byte (v >>> ((0 : Int32).toInt64 &&& 63)).toInt32.toInt8.toInt32)) (1 : Int32).toNatClampNeg (vp_nar .byte (v >>> ((8 : Int32).toInt64 &&& 63)).toInt32.toInt8.toInt32)) (2 : Int32).toNatClampNeg (vp_nar .byte (v >>> ((16 : Int32).toInt64 &&& 63)).toInt32.toInt8.toInt32))))] H := hP
                    have hD : va_D A [(aX, .inr (5, [.ref bX, .int 2, .int (-1), .int 0, .int 0, .int 0, .long 0])), (bX, .inl (cB, 2000, .inl (upd (upd (upd (fun _ => 0) (0 : Int32).toNatClampNeg (vp_nar .byte (v >>> ((0 : Int32).toInt64 &&& 63)).toInt32.toInt8.toInt32)) (1 : Int32).toNatClampNeg (vp_nar .byte (v >>> ((8 : Int32).toInt64 &&& 63)).toInt32.toInt8.toInt32)) (2 : Int32).toNatClampNeg (vp_nar .byte (v >>> ((16 : Int32).toInt64 &&& 63)).toInt32.toInt8.toInt32))))] := hD
                    refine lv_aload_n hx hb dX5_takeBytes_62 rfl (lv_at hl 1 rfl) ?_
                    refine lv_dup hx hb dX5_takeBytes_63 rfl ?_
                    refine va_get (D := D) (ci := 5) (v := .int 2) (C := RX5) (T := TX5) (N := 7) hx hb hts iX5_takeBytes_X5 hown hK hP 0 rfl rfl 1 (by decide) (hts (.fieldLink RX5 19 "TapeCalculator$Text" "length" "I") (List.mem_of_getElem? (i := 1) rfl)) (fun _ h9 => h9) rfl dX5_takeBytes_64 ?_
                    refine lv_iconst (v := 1) hx hb dX5_takeBytes_67 (by decide) ?_
                    refine lv_iadd hx hb dX5_takeBytes_68 ?_
                    refine lv_topi (fun x_155 ex_155 => ?_)
                    obtain rfl : x_155 = 3 := ex_155.trans (by decide)
                    refine va_put (D := D) (ci := 5) (v := .int 3) (ty := .int) (C := RX5) (T := TX5) (N := 7) hx hb hts iX5_takeBytes_X5 tyX5 tyX5_ok nmX5 hown hK hP hD hS 0 rfl rfl 1 (by decide) (hts (.fieldLink RX5 19 "TapeCalculator$Text" "length" "I") (List.mem_of_getElem? (i := 1) rfl)) (fun _ h9 => h9) rfl (by decide +kernel) rfl rfl (Nat.le_of_ble_eq_true rfl) dX5_takeBytes_69 (fun H locs hP hD hS => ?_)
                    have hP : va_P D vwCl [(aX, .inr (5, [.ref bX, .int 3, .int (-1), .int 0, .int 0, .int 0, .long 0])), (bX, .inl (cB, 2000, .inl (upd (upd (upd (fun _ => 0) (0 : Int32).toNatClampNeg (vp_nar .byte (v >>> ((0 : Int32).toInt64 &&& 63)).toInt32.toInt8.toInt32)) (1 : Int32).toNatClampNeg (vp_nar .byte (v >>> ((8 : Int32).toInt64 &&& 63)).toInt32.toInt8.toInt32)) (2 : Int32).toNatClampNeg (vp_nar .byte (v >>> ((16 : Int32).toInt64 &&& 63)).toInt32.toInt8.toInt32))))] H := hP
                    have hD : va_D A [(aX, .inr (5, [.ref bX, .int 3, .int (-1), .int 0, .int 0, .int 0, .long 0])), (bX, .inl (cB, 2000, .inl (upd (upd (upd (fun _ => 0) (0 : Int32).toNatClampNeg (vp_nar .byte (v >>> ((0 : Int32).toInt64 &&& 63)).toInt32.toInt8.toInt32)) (1 : Int32).toNatClampNeg (vp_nar .byte (v >>> ((8 : Int32).toInt64 &&& 63)).toInt32.toInt8.toInt32)) (2 : Int32).toNatClampNeg (vp_nar .byte (v >>> ((16 : Int32).toInt64 &&& 63)).toInt32.toInt8.toInt32))))] := hD
                    refine lv_iinc (v := 3) (lv' := [(4, .int 3), (0, .ref aX), (1, .long v), (3, .int 8)]) hx hb dX5_takeBytes_72 hl (k := 0) rfl (by decide) (by decide) rfl (fun ls hl => ?_)
                    refine lv_goto (tgt := 26) hx hb dX5_takeBytes_75 (by decide) ?_
                    refine lv_iload hx hb dX5_takeBytes_26 (lv_at hl 0 rfl) ?_
                    refine lv_iload_n hx hb dX5_takeBytes_28 rfl (lv_at hl 3 rfl) ?_
                    refine lv_icmp_ge (tgt := 78) hx hb dX5_takeBytes_29 (by decide) (fun c_29_155 => ?_) (fun c_29_155 => ?_)
                    · exact absurd c_29_155 (by decide)
                    · have t_29_155 := c_29_155
                      try simp only [kb_eq0, kb_ne0, lg_cmp_lt, lg_cmp_le, lg_cmp_gt, lg_cmp_ge, lg_cmp_eq] at t_29_155
                      try simp only [Int32.lt_iff_toInt_lt, Int32.le_iff_toInt_le, ← Int32.toInt_inj, Int64.lt_iff_toInt_lt, Int64.le_iff_toInt_le, ← Int64.toInt_inj, Int32.toInt_toInt64, Int32.reduceToInt, Int64.reduceToInt] at t_29_155
                      refine lv_aload_n hx hb dX5_takeBytes_32 rfl (lv_at hl 1 rfl) ?_
                      refine va_get (D := D) (ci := 5) (v := .int 3) (C := RX5) (T := TX5) (N := 7) hx hb hts iX5_takeBytes_X5 hown hK hP 0 rfl rfl 1 (by decide) (hts (.fieldLink RX5 19 "TapeCalculator$Text" "length" "I") (List.mem_of_getElem? (i := 1) rfl)) (fun _ h9 => h9) rfl dX5_takeBytes_33 ?_
                      refine lv_aload_n hx hb dX5_takeBytes_36 rfl (lv_at hl 1 rfl) ?_
                      refine va_get (D := D) (ci := 5) (v := .ref bX) (C := RX5) (T := TX5) (N := 7) hx hb hts iX5_takeBytes_X5 hown hK hP 0 rfl rfl 0 (by decide) (hts (.fieldLink RX5 9 "TapeCalculator$Text" "bytes" "[B") (List.mem_of_getElem? (i := 2) rfl)) (fun _ h9 => h9) rfl dX5_takeBytes_37 ?_
                      refine va_alen hx hb hK hP 1 2 rfl rfl (v := 2000) rfl dX5_takeBytes_40 ?_
                      refine lv_icmp_ge (tgt := 78) hx hb dX5_takeBytes_41 (by decide) (fun c_41_156 => ?_) (fun c_41_156 => ?_)
                      · exact absurd c_41_156 (by decide)
                      · have t_41_156 := c_41_156
                        try simp only [kb_eq0, kb_ne0, lg_cmp_lt, lg_cmp_le, lg_cmp_gt, lg_cmp_ge, lg_cmp_eq] at t_41_156
                        try simp only [Int32.lt_iff_toInt_lt, Int32.le_iff_toInt_le, ← Int32.toInt_inj, Int64.lt_iff_toInt_lt, Int64.le_iff_toInt_le, ← Int64.toInt_inj, Int32.toInt_toInt64, Int32.reduceToInt, Int64.reduceToInt] at t_41_156
                        refine lv_aload_n hx hb dX5_takeBytes_44 rfl (lv_at hl 1 rfl) ?_
                        refine va_get (D := D) (ci := 5) (v := .ref bX) (C := RX5) (T := TX5) (N := 7) hx hb hts iX5_takeBytes_X5 hown hK hP 0 rfl rfl 0 (by decide) (hts (.fieldLink RX5 9 "TapeCalculator$Text" "bytes" "[B") (List.mem_of_getElem? (i := 2) rfl)) (fun _ h9 => h9) rfl dX5_takeBytes_45 ?_
                        refine lv_aload_n hx hb dX5_takeBytes_48 rfl (lv_at hl 1 rfl) ?_
                        refine va_get (D := D) (ci := 5) (v := .int 3) (C := RX5) (T := TX5) (N := 7) hx hb hts iX5_takeBytes_X5 hown hK hP 0 rfl rfl 1 (by decide) (hts (.fieldLink RX5 19 "TapeCalculator$Text" "length" "I") (List.mem_of_getElem? (i := 1) rfl)) (fun _ h9 => h9) rfl dX5_takeBytes_49 ?_
                        refine lv_lload_n hx hb dX5_takeBytes_52 rfl (lv_at hl 2 rfl) ?_
                        refine lv_bipush (v := 8) hx hb dX5_takeBytes_53 (by decide) ?_
                        refine lv_iload hx hb dX5_takeBytes_55 (lv_at hl 0 rfl) ?_
                        refine lv_imul hx hb dX5_takeBytes_57 ?_
                        refine lv_topi (fun x_158 ex_158 => ?_)
                        obtain rfl : x_158 = 24 := ex_158.trans (by decide)
                        refine lv_lshr hx hb dX5_takeBytes_58 rfl ?_
                        refine lv_l2i hx hb dX5_takeBytes_59 rfl ?_
                        refine lv_i2b hx hb dX5_takeBytes_60 rfl ?_
                        refine va_bast hx hb hK hP hD hS 1 2 rfl rfl (vp_in_iff.mpr (by decide)) dX5_takeBytes_61 (fun H locs hP hD hS => ?_)
                        have hP : va_P D vwCl [(aX, .inr (5, [.ref bX, .int 3, .int (-1), .int 0, .int 0, .int 0, .long 0])), (bX, .inl (cB, 2000, .inl (upd (upd (upd (upd (fun _ => 0) (0 : Int32).toNatClampNeg (vp_nar .byte (v >>> ((0 : Int32).toInt64 &&& 63)).toInt32.toInt8.toInt32)) (1 : Int32).toNatClampNeg (vp_nar .byte (v >>> ((8 : Int32).toInt64 &&& 63)).toInt32.toInt8.toInt32)) (2 : Int32).toNatClampNeg (vp_nar .byte (v >>> ((16 : Int32).toInt64 &&& 63)).toInt32.toInt8.toInt32)) (3 : Int32).toNatClampNeg (vp_nar .byte (v >>> ((24 : Int32).toInt64 &&& 63)).toInt32.toInt8.toInt32))))] H := hP
                        have hD : va_D A [(aX, .inr (5, [.ref bX, .int 3, .int (-1), .int 0, .int 0, .int 0, .long 0])), (bX, .inl (cB, 2000, .inl (upd (upd (upd (upd (fun _ => 0) (0 : Int32).toNatClampNeg (vp_nar .byte (v >>> ((0 : Int32).toInt64 &&& 63)).toInt32.toInt8.toInt32)) (1 : Int32).toNatClampNeg (vp_nar .byte (v >>> ((8 : Int32).toInt64 &&& 63)).toInt32.toInt8.toInt32)) (2 : Int32).toNatClampNeg (vp_nar .byte (v >>> ((16 : Int32).toInt64 &&& 63)).toInt32.toInt8.toInt32)) (3 : Int32).toNatClampNeg (vp_nar .byte (v >>> ((24 : Int32).toInt64 &&& 63)).toInt32.toInt8.toInt32))))] := hD
                        refine lv_aload_n hx hb dX5_takeBytes_62 rfl (lv_at hl 1 rfl) ?_
                        refine lv_dup hx hb dX5_takeBytes_63 rfl ?_
                        refine va_get (D := D) (ci := 5) (v := .int 3) (C := RX5) (T := TX5) (N := 7) hx hb hts iX5_takeBytes_X5 hown hK hP 0 rfl rfl 1 (by decide) (hts (.fieldLink RX5 19 "TapeCalculator$Text" "length" "I") (List.mem_of_getElem? (i := 1) rfl)) (fun _ h9 => h9) rfl dX5_takeBytes_64 ?_
                        refine lv_iconst (v := 1) hx hb dX5_takeBytes_67 (by decide) ?_
                        refine lv_iadd hx hb dX5_takeBytes_68 ?_
                        refine lv_topi (fun x_159 ex_159 => ?_)
                        obtain rfl : x_159 = 4 := ex_159.trans (by decide)
                        refine va_put (D := D) (ci := 5) (v := .int 4) (ty := .int) (C := RX5) (T := TX5) (N := 7) hx hb hts iX5_takeBytes_X5 tyX5 tyX5_ok nmX5 hown hK hP hD hS 0 rfl rfl 1 (by decide) (hts (.fieldLink RX5 19 "TapeCalculator$Text" "length" "I") (List.mem_of_getElem? (i := 1) rfl)) (fun _ h9 => h9) rfl (by decide +kernel) rfl rfl (Nat.le_of_ble_eq_true rfl) dX5_takeBytes_69 (fun H locs hP hD hS => ?_)
                        have hP : va_P D vwCl [(aX, .inr (5, [.ref bX, .int 4, .int (-1), .int 0, .int 0, .int 0, .long 0])), (bX, .inl (cB, 2000, .inl (upd (upd (upd (upd (fun _ => 0) (0 : Int32).toNatClampNeg (vp_nar .byte (v >>> ((0 : Int32).toInt64 &&& 63)).toInt32.toInt8.toInt32)) (1 : Int32).toNatClampNeg (vp_nar .byte (v >>> ((8 : Int32).toInt64 &&& 63)).toInt32.toInt8.toInt32)) (2 : Int32).toNatClampNeg (vp_nar .byte (v >>> ((16 : Int32).toInt64 &&& 63)).toInt32.toInt8.toInt32)) (3 : Int32).toNatClampNeg (vp_nar .byte (v >>> ((24 : Int32).toInt64 &&& 63)).toInt32.toInt8.toInt32))))] H := hP
                        have hD : va_D A [(aX, .inr (5, [.ref bX, .int 4, .int (-1), .int 0, .int 0, .int 0, .long 0])), (bX, .inl (cB, 2000, .inl (upd (upd (upd (upd (fun _ => 0) (0 : Int32).toNatClampNeg (vp_nar .byte (v >>> ((0 : Int32).toInt64 &&& 63)).toInt32.toInt8.toInt32)) (1 : Int32).toNatClampNeg (vp_nar .byte (v >>> ((8 : Int32).toInt64 &&& 63)).toInt32.toInt8.toInt32)) (2 : Int32).toNatClampNeg (vp_nar .byte (v >>> ((16 : Int32).toInt64 &&& 63)).toInt32.toInt8.toInt32)) (3 : Int32).toNatClampNeg (vp_nar .byte (v >>> ((24 : Int32).toInt64 &&& 63)).toInt32.toInt8.toInt32))))] := hD
                        refine lv_iinc (v := 4) (lv' := [(4, .int 4), (0, .ref aX), (1, .long v), (3, .int 8)]) hx hb dX5_takeBytes_72 hl (k := 0) rfl (by decide) (by decide) rfl (fun ls hl => ?_)
                        refine lv_goto (tgt := 26) hx hb dX5_takeBytes_75 (by decide) ?_
                        refine lv_iload hx hb dX5_takeBytes_26 (lv_at hl 0 rfl) ?_
                        refine lv_iload_n hx hb dX5_takeBytes_28 rfl (lv_at hl 3 rfl) ?_
                        refine lv_icmp_ge (tgt := 78) hx hb dX5_takeBytes_29 (by decide) (fun c_29_159 => ?_) (fun c_29_159 => ?_)
                        · exact absurd c_29_159 (by decide)
                        · have t_29_159 := c_29_159
                          try simp only [kb_eq0, kb_ne0, lg_cmp_lt, lg_cmp_le, lg_cmp_gt, lg_cmp_ge, lg_cmp_eq] at t_29_159
                          try simp only [Int32.lt_iff_toInt_lt, Int32.le_iff_toInt_le, ← Int32.toInt_inj, Int64.lt_iff_toInt_lt, Int64.le_iff_toInt_le, ← Int64.toInt_inj, Int32.toInt_toInt64, Int32.reduceToInt, Int64.reduceToInt] at t_29_159
                          refine lv_aload_n hx hb dX5_takeBytes_32 rfl (lv_at hl 1 rfl) ?_
                          refine va_get (D := D) (ci := 5) (v := .int 4) (C := RX5) (T := TX5) (N := 7) hx hb hts iX5_takeBytes_X5 hown hK hP 0 rfl rfl 1 (by decide) (hts (.fieldLink RX5 19 "TapeCalculator$Text" "length" "I") (List.mem_of_getElem? (i := 1) rfl)) (fun _ h9 => h9) rfl dX5_takeBytes_33 ?_
                          refine lv_aload_n hx hb dX5_takeBytes_36 rfl (lv_at hl 1 rfl) ?_
                          refine va_get (D := D) (ci := 5) (v := .ref bX) (C := RX5) (T := TX5) (N := 7) hx hb hts iX5_takeBytes_X5 hown hK hP 0 rfl rfl 0 (by decide) (hts (.fieldLink RX5 9 "TapeCalculator$Text" "bytes" "[B") (List.mem_of_getElem? (i := 2) rfl)) (fun _ h9 => h9) rfl dX5_takeBytes_37 ?_
                          refine va_alen hx hb hK hP 1 2 rfl rfl (v := 2000) rfl dX5_takeBytes_40 ?_
                          refine lv_icmp_ge (tgt := 78) hx hb dX5_takeBytes_41 (by decide) (fun c_41_160 => ?_) (fun c_41_160 => ?_)
                          · exact absurd c_41_160 (by decide)
                          · have t_41_160 := c_41_160
                            try simp only [kb_eq0, kb_ne0, lg_cmp_lt, lg_cmp_le, lg_cmp_gt, lg_cmp_ge, lg_cmp_eq] at t_41_160
                            try simp only [Int32.lt_iff_toInt_lt, Int32.le_iff_toInt_le, ← Int32.toInt_inj, Int64.lt_iff_toInt_lt, Int64.le_iff_toInt_le, ← Int64.toInt_inj, Int32.toInt_toInt64, Int32.reduceToInt, Int64.reduceToInt] at t_41_160
                            refine lv_aload_n hx hb dX5_takeBytes_44 rfl (lv_at hl 1 rfl) ?_
                            refine va_get (D := D) (ci := 5) (v := .ref bX) (C := RX5) (T := TX5) (N := 7) hx hb hts iX5_takeBytes_X5 hown hK hP 0 rfl rfl 0 (by decide) (hts (.fieldLink RX5 9 "TapeCalculator$Text" "bytes" "[B") (List.mem_of_getElem? (i := 2) rfl)) (fun _ h9 => h9) rfl dX5_takeBytes_45 ?_
                            refine lv_aload_n hx hb dX5_takeBytes_48 rfl (lv_at hl 1 rfl) ?_
                            refine va_get (D := D) (ci := 5) (v := .int 4) (C := RX5) (T := TX5) (N := 7) hx hb hts iX5_takeBytes_X5 hown hK hP 0 rfl rfl 1 (by decide) (hts (.fieldLink RX5 19 "TapeCalculator$Text" "length" "I") (List.mem_of_getElem? (i := 1) rfl)) (fun _ h9 => h9) rfl dX5_takeBytes_49 ?_
                            refine lv_lload_n hx hb dX5_takeBytes_52 rfl (lv_at hl 2 rfl) ?_
                            refine lv_bipush (v := 8) hx hb dX5_takeBytes_53 (by decide) ?_
                            refine lv_iload hx hb dX5_takeBytes_55 (lv_at hl 0 rfl) ?_
                            refine lv_imul hx hb dX5_takeBytes_57 ?_
                            refine lv_topi (fun x_162 ex_162 => ?_)
                            obtain rfl : x_162 = 32 := ex_162.trans (by decide)
                            refine lv_lshr hx hb dX5_takeBytes_58 rfl ?_
                            refine lv_l2i hx hb dX5_takeBytes_59 rfl ?_
                            refine lv_i2b hx hb dX5_takeBytes_60 rfl ?_
                            refine va_bast hx hb hK hP hD hS 1 2 rfl rfl (vp_in_iff.mpr (by decide)) dX5_takeBytes_61 (fun H locs hP hD hS => ?_)
                            have hP : va_P D vwCl [(aX, .inr (5, [.ref bX, .int 4, .int (-1), .int 0, .int 0, .int 0, .long 0])), (bX, .inl (cB, 2000, .inl (upd (upd (upd (upd (upd (fun _ => 0) (0 : Int32).toNatClampNeg (vp_nar .byte (v >>> ((0 : Int32).toInt64 &&& 63)).toInt32.toInt8.toInt32)) (1 : Int32).toNatClampNeg (vp_nar .byte (v >>> ((8 : Int32).toInt64 &&& 63)).toInt32.toInt8.toInt32)) (2 : Int32).toNatClampNeg (vp_nar .byte (v >>> ((16 : Int32).toInt64 &&& 63)).toInt32.toInt8.toInt32)) (3 : Int32).toNatClampNeg (vp_nar .byte (v >>> ((24 : Int32).toInt64 &&& 63)).toInt32.toInt8.toInt32)) (4 : Int32).toNatClampNeg (vp_nar .byte (v >>> ((32 : Int32).toInt64 &&& 63)).toInt32.toInt8.toInt32))))] H := hP
                            have hD : va_D A [(aX, .inr (5, [.ref bX, .int 4, .int (-1), .int 0, .int 0, .int 0, .long 0])), (bX, .inl (cB, 2000, .inl (upd (upd (upd (upd (upd (fun _ => 0) (0 : Int32).toNatClampNeg (vp_nar .byte (v >>> ((0 : Int32).toInt64 &&& 63)).toInt32.toInt8.toInt32)) (1 : Int32).toNatClampNeg (vp_nar .byte (v >>> ((8 : Int32).toInt64 &&& 63)).toInt32.toInt8.toInt32)) (2 : Int32).toNatClampNeg (vp_nar .byte (v >>> ((16 : Int32).toInt64 &&& 63)).toInt32.toInt8.toInt32)) (3 : Int32).toNatClampNeg (vp_nar .byte (v >>> ((24 : Int32).toInt64 &&& 63)).toInt32.toInt8.toInt32)) (4 : Int32).toNatClampNeg (vp_nar .byte (v >>> ((32 : Int32).toInt64 &&& 63)).toInt32.toInt8.toInt32))))] := hD
                            refine lv_aload_n hx hb dX5_takeBytes_62 rfl (lv_at hl 1 rfl) ?_
                            refine lv_dup hx hb dX5_takeBytes_63 rfl ?_
                            refine va_get (D := D) (ci := 5) (v := .int 4) (C := RX5) (T := TX5) (N := 7) hx hb hts iX5_takeBytes_X5 hown hK hP 0 rfl rfl 1 (by decide) (hts (.fieldLink RX5 19 "TapeCalculator$Text" "length" "I") (List.mem_of_getElem? (i := 1) rfl)) (fun _ h9 => h9) rfl dX5_takeBytes_64 ?_
                            refine lv_iconst (v := 1) hx hb dX5_takeBytes_67 (by decide) ?_
                            refine lv_iadd hx hb dX5_takeBytes_68 ?_
                            refine lv_topi (fun x_163 ex_163 => ?_)
                            obtain rfl : x_163 = 5 := ex_163.trans (by decide)
                            refine va_put (D := D) (ci := 5) (v := .int 5) (ty := .int) (C := RX5) (T := TX5) (N := 7) hx hb hts iX5_takeBytes_X5 tyX5 tyX5_ok nmX5 hown hK hP hD hS 0 rfl rfl 1 (by decide) (hts (.fieldLink RX5 19 "TapeCalculator$Text" "length" "I") (List.mem_of_getElem? (i := 1) rfl)) (fun _ h9 => h9) rfl (by decide +kernel) rfl rfl (Nat.le_of_ble_eq_true rfl) dX5_takeBytes_69 (fun H locs hP hD hS => ?_)
                            have hP : va_P D vwCl [(aX, .inr (5, [.ref bX, .int 5, .int (-1), .int 0, .int 0, .int 0, .long 0])), (bX, .inl (cB, 2000, .inl (upd (upd (upd (upd (upd (fun _ => 0) (0 : Int32).toNatClampNeg (vp_nar .byte (v >>> ((0 : Int32).toInt64 &&& 63)).toInt32.toInt8.toInt32)) (1 : Int32).toNatClampNeg (vp_nar .byte (v >>> ((8 : Int32).toInt64 &&& 63)).toInt32.toInt8.toInt32)) (2 : Int32).toNatClampNeg (vp_nar .byte (v >>> ((16 : Int32).toInt64 &&& 63)).toInt32.toInt8.toInt32)) (3 : Int32).toNatClampNeg (vp_nar .byte (v >>> ((24 : Int32).toInt64 &&& 63)).toInt32.toInt8.toInt32)) (4 : Int32).toNatClampNeg (vp_nar .byte (v >>> ((32 : Int32).toInt64 &&& 63)).toInt32.toInt8.toInt32))))] H := hP
                            have hD : va_D A [(aX, .inr (5, [.ref bX, .int 5, .int (-1), .int 0, .int 0, .int 0, .long 0])), (bX, .inl (cB, 2000, .inl (upd (upd (upd (upd (upd (fun _ => 0) (0 : Int32).toNatClampNeg (vp_nar .byte (v >>> ((0 : Int32).toInt64 &&& 63)).toInt32.toInt8.toInt32)) (1 : Int32).toNatClampNeg (vp_nar .byte (v >>> ((8 : Int32).toInt64 &&& 63)).toInt32.toInt8.toInt32)) (2 : Int32).toNatClampNeg (vp_nar .byte (v >>> ((16 : Int32).toInt64 &&& 63)).toInt32.toInt8.toInt32)) (3 : Int32).toNatClampNeg (vp_nar .byte (v >>> ((24 : Int32).toInt64 &&& 63)).toInt32.toInt8.toInt32)) (4 : Int32).toNatClampNeg (vp_nar .byte (v >>> ((32 : Int32).toInt64 &&& 63)).toInt32.toInt8.toInt32))))] := hD
                            refine lv_iinc (v := 5) (lv' := [(4, .int 5), (0, .ref aX), (1, .long v), (3, .int 8)]) hx hb dX5_takeBytes_72 hl (k := 0) rfl (by decide) (by decide) rfl (fun ls hl => ?_)
                            refine lv_goto (tgt := 26) hx hb dX5_takeBytes_75 (by decide) ?_
                            refine lv_iload hx hb dX5_takeBytes_26 (lv_at hl 0 rfl) ?_
                            refine lv_iload_n hx hb dX5_takeBytes_28 rfl (lv_at hl 3 rfl) ?_
                            refine lv_icmp_ge (tgt := 78) hx hb dX5_takeBytes_29 (by decide) (fun c_29_163 => ?_) (fun c_29_163 => ?_)
                            · exact absurd c_29_163 (by decide)
                            · have t_29_163 := c_29_163
                              try simp only [kb_eq0, kb_ne0, lg_cmp_lt, lg_cmp_le, lg_cmp_gt, lg_cmp_ge, lg_cmp_eq] at t_29_163
                              try simp only [Int32.lt_iff_toInt_lt, Int32.le_iff_toInt_le, ← Int32.toInt_inj, Int64.lt_iff_toInt_lt, Int64.le_iff_toInt_le, ← Int64.toInt_inj, Int32.toInt_toInt64, Int32.reduceToInt, Int64.reduceToInt] at t_29_163
                              refine lv_aload_n hx hb dX5_takeBytes_32 rfl (lv_at hl 1 rfl) ?_
                              refine va_get (D := D) (ci := 5) (v := .int 5) (C := RX5) (T := TX5) (N := 7) hx hb hts iX5_takeBytes_X5 hown hK hP 0 rfl rfl 1 (by decide) (hts (.fieldLink RX5 19 "TapeCalculator$Text" "length" "I") (List.mem_of_getElem? (i := 1) rfl)) (fun _ h9 => h9) rfl dX5_takeBytes_33 ?_
                              refine lv_aload_n hx hb dX5_takeBytes_36 rfl (lv_at hl 1 rfl) ?_
                              refine va_get (D := D) (ci := 5) (v := .ref bX) (C := RX5) (T := TX5) (N := 7) hx hb hts iX5_takeBytes_X5 hown hK hP 0 rfl rfl 0 (by decide) (hts (.fieldLink RX5 9 "TapeCalculator$Text" "bytes" "[B") (List.mem_of_getElem? (i := 2) rfl)) (fun _ h9 => h9) rfl dX5_takeBytes_37 ?_
                              refine va_alen hx hb hK hP 1 2 rfl rfl (v := 2000) rfl dX5_takeBytes_40 ?_
                              refine lv_icmp_ge (tgt := 78) hx hb dX5_takeBytes_41 (by decide) (fun c_41_164 => ?_) (fun c_41_164 => ?_)
                              · exact absurd c_41_164 (by decide)
                              · have t_41_164 := c_41_164
                                try simp only [kb_eq0, kb_ne0, lg_cmp_lt, lg_cmp_le, lg_cmp_gt, lg_cmp_ge, lg_cmp_eq] at t_41_164
                                try simp only [Int32.lt_iff_toInt_lt, Int32.le_iff_toInt_le, ← Int32.toInt_inj, Int64.lt_iff_toInt_lt, Int64.le_iff_toInt_le, ← Int64.toInt_inj, Int32.toInt_toInt64, Int32.reduceToInt, Int64.reduceToInt] at t_41_164
                                refine lv_aload_n hx hb dX5_takeBytes_44 rfl (lv_at hl 1 rfl) ?_
                                refine va_get (D := D) (ci := 5) (v := .ref bX) (C := RX5) (T := TX5) (N := 7) hx hb hts iX5_takeBytes_X5 hown hK hP 0 rfl rfl 0 (by decide) (hts (.fieldLink RX5 9 "TapeCalculator$Text" "bytes" "[B") (List.mem_of_getElem? (i := 2) rfl)) (fun _ h9 => h9) rfl dX5_takeBytes_45 ?_
                                refine lv_aload_n hx hb dX5_takeBytes_48 rfl (lv_at hl 1 rfl) ?_
                                refine va_get (D := D) (ci := 5) (v := .int 5) (C := RX5) (T := TX5) (N := 7) hx hb hts iX5_takeBytes_X5 hown hK hP 0 rfl rfl 1 (by decide) (hts (.fieldLink RX5 19 "TapeCalculator$Text" "length" "I") (List.mem_of_getElem? (i := 1) rfl)) (fun _ h9 => h9) rfl dX5_takeBytes_49 ?_
                                refine lv_lload_n hx hb dX5_takeBytes_52 rfl (lv_at hl 2 rfl) ?_
                                refine lv_bipush (v := 8) hx hb dX5_takeBytes_53 (by decide) ?_
                                refine lv_iload hx hb dX5_takeBytes_55 (lv_at hl 0 rfl) ?_
                                refine lv_imul hx hb dX5_takeBytes_57 ?_
                                refine lv_topi (fun x_166 ex_166 => ?_)
                                obtain rfl : x_166 = 40 := ex_166.trans (by decide)
                                refine lv_lshr hx hb dX5_takeBytes_58 rfl ?_
                                refine lv_l2i hx hb dX5_takeBytes_59 rfl ?_
                                refine lv_i2b hx hb dX5_takeBytes_60 rfl ?_
                                refine va_bast hx hb hK hP hD hS 1 2 rfl rfl (vp_in_iff.mpr (by decide)) dX5_takeBytes_61 (fun H locs hP hD hS => ?_)
                                have hP : va_P D vwCl [(aX, .inr (5, [.ref bX, .int 5, .int (-1), .int 0, .int 0, .int 0, .long 0])), (bX, .inl (cB, 2000, .inl (upd (upd (upd (upd (upd (upd (fun _ => 0) (0 : Int32).toNatClampNeg (vp_nar .byte (v >>> ((0 : Int32).toInt64 &&& 63)).toInt32.toInt8.toInt32)) (1 : Int32).toNatClampNeg (vp_nar .byte (v >>> ((8 : Int32).toInt64 &&& 63)).toInt32.toInt8.toInt32)) (2 : Int32).toNatClampNeg (vp_nar .byte (v >>> ((16 : Int32).toInt64 &&& 63)).toInt32.toInt8.toInt32)) (3 : Int32).toNatClampNeg (vp_nar .byte (v >>> ((24 : Int32).toInt64 &&& 63)).toInt32.toInt8.toInt32)) (4 : Int32).toNatClampNeg (vp_nar .byte (v >>> ((32 : Int32).toInt64 &&& 63)).toInt32.toInt8.toInt32)) (5 : Int32).toNatClampNeg (vp_nar .byte (v >>> ((40 : Int32).toInt64 &&& 63)).toInt32.toInt8.toInt32))))] H := hP
                                have hD : va_D A [(aX, .inr (5, [.ref bX, .int 5, .int (-1), .int 0, .int 0, .int 0, .long 0])), (bX, .inl (cB, 2000, .inl (upd (upd (upd (upd (upd (upd (fun _ => 0) (0 : Int32).toNatClampNeg (vp_nar .byte (v >>> ((0 : Int32).toInt64 &&& 63)).toInt32.toInt8.toInt32)) (1 : Int32).toNatClampNeg (vp_nar .byte (v >>> ((8 : Int32).toInt64 &&& 63)).toInt32.toInt8.toInt32)) (2 : Int32).toNatClampNeg (vp_nar .byte (v >>> ((16 : Int32).toInt64 &&& 63)).toInt32.toInt8.toInt32)) (3 : Int32).toNatClampNeg (vp_nar .byte (v >>> ((24 : Int32).toInt64 &&& 63)).toInt32.toInt8.toInt32)) (4 : Int32).toNatClampNeg (vp_nar .byte (v >>> ((32 : Int32).toInt64 &&& 63)).toInt32.toInt8.toInt32)) (5 : Int32).toNatClampNeg (vp_nar .byte (v >>> ((40 : Int32).toInt64 &&& 63)).toInt32.toInt8.toInt32))))] := hD
                                refine lv_aload_n hx hb dX5_takeBytes_62 rfl (lv_at hl 1 rfl) ?_
                                refine lv_dup hx hb dX5_takeBytes_63 rfl ?_
                                refine va_get (D := D) (ci := 5) (v := .int 5) (C := RX5) (T := TX5) (N := 7) hx hb hts iX5_takeBytes_X5 hown hK hP 0 rfl rfl 1 (by decide) (hts (.fieldLink RX5 19 "TapeCalculator$Text" "length" "I") (List.mem_of_getElem? (i := 1) rfl)) (fun _ h9 => h9) rfl dX5_takeBytes_64 ?_
                                refine lv_iconst (v := 1) hx hb dX5_takeBytes_67 (by decide) ?_
                                refine lv_iadd hx hb dX5_takeBytes_68 ?_
                                refine lv_topi (fun x_167 ex_167 => ?_)
                                obtain rfl : x_167 = 6 := ex_167.trans (by decide)
                                refine va_put (D := D) (ci := 5) (v := .int 6) (ty := .int) (C := RX5) (T := TX5) (N := 7) hx hb hts iX5_takeBytes_X5 tyX5 tyX5_ok nmX5 hown hK hP hD hS 0 rfl rfl 1 (by decide) (hts (.fieldLink RX5 19 "TapeCalculator$Text" "length" "I") (List.mem_of_getElem? (i := 1) rfl)) (fun _ h9 => h9) rfl (by decide +kernel) rfl rfl (Nat.le_of_ble_eq_true rfl) dX5_takeBytes_69 (fun H locs hP hD hS => ?_)
                                have hP : va_P D vwCl [(aX, .inr (5, [.ref bX, .int 6, .int (-1), .int 0, .int 0, .int 0, .long 0])), (bX, .inl (cB, 2000, .inl (upd (upd (upd (upd (upd (upd (fun _ => 0) (0 : Int32).toNatClampNeg (vp_nar .byte (v >>> ((0 : Int32).toInt64 &&& 63)).toInt32.toInt8.toInt32)) (1 : Int32).toNatClampNeg (vp_nar .byte (v >>> ((8 : Int32).toInt64 &&& 63)).toInt32.toInt8.toInt32)) (2 : Int32).toNatClampNeg (vp_nar .byte (v >>> ((16 : Int32).toInt64 &&& 63)).toInt32.toInt8.toInt32)) (3 : Int32).toNatClampNeg (vp_nar .byte (v >>> ((24 : Int32).toInt64 &&& 63)).toInt32.toInt8.toInt32)) (4 : Int32).toNatClampNeg (vp_nar .byte (v >>> ((32 : Int32).toInt64 &&& 63)).toInt32.toInt8.toInt32)) (5 : Int32).toNatClampNeg (vp_nar .byte (v >>> ((40 : Int32).toInt64 &&& 63)).toInt32.toInt8.toInt32))))] H := hP
                                have hD : va_D A [(aX, .inr (5, [.ref bX, .int 6, .int (-1), .int 0, .int 0, .int 0, .long 0])), (bX, .inl (cB, 2000, .inl (upd (upd (upd (upd (upd (upd (fun _ => 0) (0 : Int32).toNatClampNeg (vp_nar .byte (v >>> ((0 : Int32).toInt64 &&& 63)).toInt32.toInt8.toInt32)) (1 : Int32).toNatClampNeg (vp_nar .byte (v >>> ((8 : Int32).toInt64 &&& 63)).toInt32.toInt8.toInt32)) (2 : Int32).toNatClampNeg (vp_nar .byte (v >>> ((16 : Int32).toInt64 &&& 63)).toInt32.toInt8.toInt32)) (3 : Int32).toNatClampNeg (vp_nar .byte (v >>> ((24 : Int32).toInt64 &&& 63)).toInt32.toInt8.toInt32)) (4 : Int32).toNatClampNeg (vp_nar .byte (v >>> ((32 : Int32).toInt64 &&& 63)).toInt32.toInt8.toInt32)) (5 : Int32).toNatClampNeg (vp_nar .byte (v >>> ((40 : Int32).toInt64 &&& 63)).toInt32.toInt8.toInt32))))] := hD
                                refine lv_iinc (v := 6) (lv' := [(4, .int 6), (0, .ref aX), (1, .long v), (3, .int 8)]) hx hb dX5_takeBytes_72 hl (k := 0) rfl (by decide) (by decide) rfl (fun ls hl => ?_)
                                refine lv_goto (tgt := 26) hx hb dX5_takeBytes_75 (by decide) ?_
                                refine lv_iload hx hb dX5_takeBytes_26 (lv_at hl 0 rfl) ?_
                                refine lv_iload_n hx hb dX5_takeBytes_28 rfl (lv_at hl 3 rfl) ?_
                                refine lv_icmp_ge (tgt := 78) hx hb dX5_takeBytes_29 (by decide) (fun c_29_167 => ?_) (fun c_29_167 => ?_)
                                · exact absurd c_29_167 (by decide)
                                · have t_29_167 := c_29_167
                                  try simp only [kb_eq0, kb_ne0, lg_cmp_lt, lg_cmp_le, lg_cmp_gt, lg_cmp_ge, lg_cmp_eq] at t_29_167
                                  try simp only [Int32.lt_iff_toInt_lt, Int32.le_iff_toInt_le, ← Int32.toInt_inj, Int64.lt_iff_toInt_lt, Int64.le_iff_toInt_le, ← Int64.toInt_inj, Int32.toInt_toInt64, Int32.reduceToInt, Int64.reduceToInt] at t_29_167
                                  refine lv_aload_n hx hb dX5_takeBytes_32 rfl (lv_at hl 1 rfl) ?_
                                  refine va_get (D := D) (ci := 5) (v := .int 6) (C := RX5) (T := TX5) (N := 7) hx hb hts iX5_takeBytes_X5 hown hK hP 0 rfl rfl 1 (by decide) (hts (.fieldLink RX5 19 "TapeCalculator$Text" "length" "I") (List.mem_of_getElem? (i := 1) rfl)) (fun _ h9 => h9) rfl dX5_takeBytes_33 ?_
                                  refine lv_aload_n hx hb dX5_takeBytes_36 rfl (lv_at hl 1 rfl) ?_
                                  refine va_get (D := D) (ci := 5) (v := .ref bX) (C := RX5) (T := TX5) (N := 7) hx hb hts iX5_takeBytes_X5 hown hK hP 0 rfl rfl 0 (by decide) (hts (.fieldLink RX5 9 "TapeCalculator$Text" "bytes" "[B") (List.mem_of_getElem? (i := 2) rfl)) (fun _ h9 => h9) rfl dX5_takeBytes_37 ?_
                                  refine va_alen hx hb hK hP 1 2 rfl rfl (v := 2000) rfl dX5_takeBytes_40 ?_
                                  refine lv_icmp_ge (tgt := 78) hx hb dX5_takeBytes_41 (by decide) (fun c_41_168 => ?_) (fun c_41_168 => ?_)
                                  · exact absurd c_41_168 (by decide)
                                  · have t_41_168 := c_41_168
                                    try simp only [kb_eq0, kb_ne0, lg_cmp_lt, lg_cmp_le, lg_cmp_gt, lg_cmp_ge, lg_cmp_eq] at t_41_168
                                    try simp only [Int32.lt_iff_toInt_lt, Int32.le_iff_toInt_le, ← Int32.toInt_inj, Int64.lt_iff_toInt_lt, Int64.le_iff_toInt_le, ← Int64.toInt_inj, Int32.toInt_toInt64, Int32.reduceToInt, Int64.reduceToInt] at t_41_168
                                    refine lv_aload_n hx hb dX5_takeBytes_44 rfl (lv_at hl 1 rfl) ?_
                                    refine va_get (D := D) (ci := 5) (v := .ref bX) (C := RX5) (T := TX5) (N := 7) hx hb hts iX5_takeBytes_X5 hown hK hP 0 rfl rfl 0 (by decide) (hts (.fieldLink RX5 9 "TapeCalculator$Text" "bytes" "[B") (List.mem_of_getElem? (i := 2) rfl)) (fun _ h9 => h9) rfl dX5_takeBytes_45 ?_
                                    refine lv_aload_n hx hb dX5_takeBytes_48 rfl (lv_at hl 1 rfl) ?_
                                    refine va_get (D := D) (ci := 5) (v := .int 6) (C := RX5) (T := TX5) (N := 7) hx hb hts iX5_takeBytes_X5 hown hK hP 0 rfl rfl 1 (by decide) (hts (.fieldLink RX5 19 "TapeCalculator$Text" "length" "I") (List.mem_of_getElem? (i := 1) rfl)) (fun _ h9 => h9) rfl dX5_takeBytes_49 ?_
                                    refine lv_lload_n hx hb dX5_takeBytes_52 rfl (lv_at hl 2 rfl) ?_
                                    refine lv_bipush (v := 8) hx hb dX5_takeBytes_53 (by decide) ?_
                                    refine lv_iload hx hb dX5_takeBytes_55 (lv_at hl 0 rfl) ?_
                                    refine lv_imul hx hb dX5_takeBytes_57 ?_
                                    refine lv_topi (fun x_170 ex_170 => ?_)
                                    obtain rfl : x_170 = 48 := ex_170.trans (by decide)
                                    refine lv_lshr hx hb dX5_takeBytes_58 rfl ?_
                                    refine lv_l2i hx hb dX5_takeBytes_59 rfl ?_
                                    refine lv_i2b hx hb dX5_takeBytes_60 rfl ?_
                                    refine va_bast hx hb hK hP hD hS 1 2 rfl rfl (vp_in_iff.mpr (by decide)) dX5_takeBytes_61 (fun H locs hP hD hS => ?_)
                                    have hP : va_P D vwCl [(aX, .inr (5, [.ref bX, .int 6, .int (-1), .int 0, .int 0, .int 0, .long 0])), (bX, .inl (cB, 2000, .inl (upd (upd (upd (upd (upd (upd (upd (fun _ => 0) (0 : Int32).toNatClampNeg (vp_nar .byte (v >>> ((0 : Int32).toInt64 &&& 63)).toInt32.toInt8.toInt32)) (1 : Int32).toNatClampNeg (vp_nar .byte (v >>> ((8 : Int32).toInt64 &&& 63)).toInt32.toInt8.toInt32)) (2 : Int32).toNatClampNeg (vp_nar .byte (v >>> ((16 : Int32).toInt64 &&& 63)).toInt32.toInt8.toInt32)) (3 : Int32).toNatClampNeg (vp_nar .byte (v >>> ((24 : Int32).toInt64 &&& 63)).toInt32.toInt8.toInt32)) (4 : Int32).toNatClampNeg (vp_nar .byte (v >>> ((32 : Int32).toInt64 &&& 63)).toInt32.toInt8.toInt32)) (5 : Int32).toNatClampNeg (vp_nar .byte (v >>> ((40 : Int32).toInt64 &&& 63)).toInt32.toInt8.toInt32)) (6 : Int32).toNatClampNeg (vp_nar .byte (v >>> ((48 : Int32).toInt64 &&& 63)).toInt32.toInt8.toInt32))))] H := hP
                                    have hD : va_D A [(aX, .inr (5, [.ref bX, .int 6, .int (-1), .int 0, .int 0, .int 0, .long 0])), (bX, .inl (cB, 2000, .inl (upd (upd (upd (upd (upd (upd (upd (fun _ => 0) (0 : Int32).toNatClampNeg (vp_nar .byte (v >>> ((0 : Int32).toInt64 &&& 63)).toInt32.toInt8.toInt32)) (1 : Int32).toNatClampNeg (vp_nar .byte (v >>> ((8 : Int32).toInt64 &&& 63)).toInt32.toInt8.toInt32)) (2 : Int32).toNatClampNeg (vp_nar .byte (v >>> ((16 : Int32).toInt64 &&& 63)).toInt32.toInt8.toInt32)) (3 : Int32).toNatClampNeg (vp_nar .byte (v >>> ((24 : Int32).toInt64 &&& 63)).toInt32.toInt8.toInt32)) (4 : Int32).toNatClampNeg (vp_nar .byte (v >>> ((32 : Int32).toInt64 &&& 63)).toInt32.toInt8.toInt32)) (5 : Int32).toNatClampNeg (vp_nar .byte (v >>> ((40 : Int32).toInt64 &&& 63)).toInt32.toInt8.toInt32)) (6 : Int32).toNatClampNeg (vp_nar .byte (v >>> ((48 : Int32).toInt64 &&& 63)).toInt32.toInt8.toInt32))))] := hD
                                    refine lv_aload_n hx hb dX5_takeBytes_62 rfl (lv_at hl 1 rfl) ?_
                                    refine lv_dup hx hb dX5_takeBytes_63 rfl ?_
                                    refine va_get (D := D) (ci := 5) (v := .int 6) (C := RX5) (T := TX5) (N := 7) hx hb hts iX5_takeBytes_X5 hown hK hP 0 rfl rfl 1 (by decide) (hts (.fieldLink RX5 19 "TapeCalculator$Text" "length" "I") (List.mem_of_getElem? (i := 1) rfl)) (fun _ h9 => h9) rfl dX5_takeBytes_64 ?_
                                    refine lv_iconst (v := 1) hx hb dX5_takeBytes_67 (by decide) ?_
                                    refine lv_iadd hx hb dX5_takeBytes_68 ?_
                                    refine lv_topi (fun x_171 ex_171 => ?_)
                                    obtain rfl : x_171 = 7 := ex_171.trans (by decide)
                                    refine va_put (D := D) (ci := 5) (v := .int 7) (ty := .int) (C := RX5) (T := TX5) (N := 7) hx hb hts iX5_takeBytes_X5 tyX5 tyX5_ok nmX5 hown hK hP hD hS 0 rfl rfl 1 (by decide) (hts (.fieldLink RX5 19 "TapeCalculator$Text" "length" "I") (List.mem_of_getElem? (i := 1) rfl)) (fun _ h9 => h9) rfl (by decide +kernel) rfl rfl (Nat.le_of_ble_eq_true rfl) dX5_takeBytes_69 (fun H locs hP hD hS => ?_)
                                    have hP : va_P D vwCl [(aX, .inr (5, [.ref bX, .int 7, .int (-1), .int 0, .int 0, .int 0, .long 0])), (bX, .inl (cB, 2000, .inl (upd (upd (upd (upd (upd (upd (upd (fun _ => 0) (0 : Int32).toNatClampNeg (vp_nar .byte (v >>> ((0 : Int32).toInt64 &&& 63)).toInt32.toInt8.toInt32)) (1 : Int32).toNatClampNeg (vp_nar .byte (v >>> ((8 : Int32).toInt64 &&& 63)).toInt32.toInt8.toInt32)) (2 : Int32).toNatClampNeg (vp_nar .byte (v >>> ((16 : Int32).toInt64 &&& 63)).toInt32.toInt8.toInt32)) (3 : Int32).toNatClampNeg (vp_nar .byte (v >>> ((24 : Int32).toInt64 &&& 63)).toInt32.toInt8.toInt32)) (4 : Int32).toNatClampNeg (vp_nar .byte (v >>> ((32 : Int32).toInt64 &&& 63)).toInt32.toInt8.toInt32)) (5 : Int32).toNatClampNeg (vp_nar .byte (v >>> ((40 : Int32).toInt64 &&& 63)).toInt32.toInt8.toInt32)) (6 : Int32).toNatClampNeg (vp_nar .byte (v >>> ((48 : Int32).toInt64 &&& 63)).toInt32.toInt8.toInt32))))] H := hP
                                    have hD : va_D A [(aX, .inr (5, [.ref bX, .int 7, .int (-1), .int 0, .int 0, .int 0, .long 0])), (bX, .inl (cB, 2000, .inl (upd (upd (upd (upd (upd (upd (upd (fun _ => 0) (0 : Int32).toNatClampNeg (vp_nar .byte (v >>> ((0 : Int32).toInt64 &&& 63)).toInt32.toInt8.toInt32)) (1 : Int32).toNatClampNeg (vp_nar .byte (v >>> ((8 : Int32).toInt64 &&& 63)).toInt32.toInt8.toInt32)) (2 : Int32).toNatClampNeg (vp_nar .byte (v >>> ((16 : Int32).toInt64 &&& 63)).toInt32.toInt8.toInt32)) (3 : Int32).toNatClampNeg (vp_nar .byte (v >>> ((24 : Int32).toInt64 &&& 63)).toInt32.toInt8.toInt32)) (4 : Int32).toNatClampNeg (vp_nar .byte (v >>> ((32 : Int32).toInt64 &&& 63)).toInt32.toInt8.toInt32)) (5 : Int32).toNatClampNeg (vp_nar .byte (v >>> ((40 : Int32).toInt64 &&& 63)).toInt32.toInt8.toInt32)) (6 : Int32).toNatClampNeg (vp_nar .byte (v >>> ((48 : Int32).toInt64 &&& 63)).toInt32.toInt8.toInt32))))] := hD
                                    refine lv_iinc (v := 7) (lv' := [(4, .int 7), (0, .ref aX), (1, .long v), (3, .int 8)]) hx hb dX5_takeBytes_72 hl (k := 0) rfl (by decide) (by decide) rfl (fun ls hl => ?_)
                                    refine lv_goto (tgt := 26) hx hb dX5_takeBytes_75 (by decide) ?_
                                    refine lv_iload hx hb dX5_takeBytes_26 (lv_at hl 0 rfl) ?_
                                    refine lv_iload_n hx hb dX5_takeBytes_28 rfl (lv_at hl 3 rfl) ?_
                                    refine lv_icmp_ge (tgt := 78) hx hb dX5_takeBytes_29 (by decide) (fun c_29_171 => ?_) (fun c_29_171 => ?_)
                                    · exact absurd c_29_171 (by decide)
                                    · have t_29_171 := c_29_171
                                      try simp only [kb_eq0, kb_ne0, lg_cmp_lt, lg_cmp_le, lg_cmp_gt, lg_cmp_ge, lg_cmp_eq] at t_29_171
                                      try simp only [Int32.lt_iff_toInt_lt, Int32.le_iff_toInt_le, ← Int32.toInt_inj, Int64.lt_iff_toInt_lt, Int64.le_iff_toInt_le, ← Int64.toInt_inj, Int32.toInt_toInt64, Int32.reduceToInt, Int64.reduceToInt] at t_29_171
                                      refine lv_aload_n hx hb dX5_takeBytes_32 rfl (lv_at hl 1 rfl) ?_
                                      refine va_get (D := D) (ci := 5) (v := .int 7) (C := RX5) (T := TX5) (N := 7) hx hb hts iX5_takeBytes_X5 hown hK hP 0 rfl rfl 1 (by decide) (hts (.fieldLink RX5 19 "TapeCalculator$Text" "length" "I") (List.mem_of_getElem? (i := 1) rfl)) (fun _ h9 => h9) rfl dX5_takeBytes_33 ?_
                                      refine lv_aload_n hx hb dX5_takeBytes_36 rfl (lv_at hl 1 rfl) ?_
                                      refine va_get (D := D) (ci := 5) (v := .ref bX) (C := RX5) (T := TX5) (N := 7) hx hb hts iX5_takeBytes_X5 hown hK hP 0 rfl rfl 0 (by decide) (hts (.fieldLink RX5 9 "TapeCalculator$Text" "bytes" "[B") (List.mem_of_getElem? (i := 2) rfl)) (fun _ h9 => h9) rfl dX5_takeBytes_37 ?_
                                      refine va_alen hx hb hK hP 1 2 rfl rfl (v := 2000) rfl dX5_takeBytes_40 ?_
                                      refine lv_icmp_ge (tgt := 78) hx hb dX5_takeBytes_41 (by decide) (fun c_41_172 => ?_) (fun c_41_172 => ?_)
                                      · exact absurd c_41_172 (by decide)
                                      · have t_41_172 := c_41_172
                                        try simp only [kb_eq0, kb_ne0, lg_cmp_lt, lg_cmp_le, lg_cmp_gt, lg_cmp_ge, lg_cmp_eq] at t_41_172
                                        try simp only [Int32.lt_iff_toInt_lt, Int32.le_iff_toInt_le, ← Int32.toInt_inj, Int64.lt_iff_toInt_lt, Int64.le_iff_toInt_le, ← Int64.toInt_inj, Int32.toInt_toInt64, Int32.reduceToInt, Int64.reduceToInt] at t_41_172
                                        refine lv_aload_n hx hb dX5_takeBytes_44 rfl (lv_at hl 1 rfl) ?_
                                        refine va_get (D := D) (ci := 5) (v := .ref bX) (C := RX5) (T := TX5) (N := 7) hx hb hts iX5_takeBytes_X5 hown hK hP 0 rfl rfl 0 (by decide) (hts (.fieldLink RX5 9 "TapeCalculator$Text" "bytes" "[B") (List.mem_of_getElem? (i := 2) rfl)) (fun _ h9 => h9) rfl dX5_takeBytes_45 ?_
                                        refine lv_aload_n hx hb dX5_takeBytes_48 rfl (lv_at hl 1 rfl) ?_
                                        refine va_get (D := D) (ci := 5) (v := .int 7) (C := RX5) (T := TX5) (N := 7) hx hb hts iX5_takeBytes_X5 hown hK hP 0 rfl rfl 1 (by decide) (hts (.fieldLink RX5 19 "TapeCalculator$Text" "length" "I") (List.mem_of_getElem? (i := 1) rfl)) (fun _ h9 => h9) rfl dX5_takeBytes_49 ?_
                                        refine lv_lload_n hx hb dX5_takeBytes_52 rfl (lv_at hl 2 rfl) ?_
                                        refine lv_bipush (v := 8) hx hb dX5_takeBytes_53 (by decide) ?_
                                        refine lv_iload hx hb dX5_takeBytes_55 (lv_at hl 0 rfl) ?_
                                        refine lv_imul hx hb dX5_takeBytes_57 ?_
                                        refine lv_topi (fun x_174 ex_174 => ?_)
                                        obtain rfl : x_174 = 56 := ex_174.trans (by decide)
                                        refine lv_lshr hx hb dX5_takeBytes_58 rfl ?_
                                        refine lv_l2i hx hb dX5_takeBytes_59 rfl ?_
                                        refine lv_i2b hx hb dX5_takeBytes_60 rfl ?_
                                        refine va_bast hx hb hK hP hD hS 1 2 rfl rfl (vp_in_iff.mpr (by decide)) dX5_takeBytes_61 (fun H locs hP hD hS => ?_)
                                        have hP : va_P D vwCl [(aX, .inr (5, [.ref bX, .int 7, .int (-1), .int 0, .int 0, .int 0, .long 0])), (bX, .inl (cB, 2000, .inl (upd (upd (upd (upd (upd (upd (upd (upd (fun _ => 0) (0 : Int32).toNatClampNeg (vp_nar .byte (v >>> ((0 : Int32).toInt64 &&& 63)).toInt32.toInt8.toInt32)) (1 : Int32).toNatClampNeg (vp_nar .byte (v >>> ((8 : Int32).toInt64 &&& 63)).toInt32.toInt8.toInt32)) (2 : Int32).toNatClampNeg (vp_nar .byte (v >>> ((16 : Int32).toInt64 &&& 63)).toInt32.toInt8.toInt32)) (3 : Int32).toNatClampNeg (vp_nar .byte (v >>> ((24 : Int32).toInt64 &&& 63)).toInt32.toInt8.toInt32)) (4 : Int32).toNatClampNeg (vp_nar .byte (v >>> ((32 : Int32).toInt64 &&& 63)).toInt32.toInt8.toInt32)) (5 : Int32).toNatClampNeg (vp_nar .byte (v >>> ((40 : Int32).toInt64 &&& 63)).toInt32.toInt8.toInt32)) (6 : Int32).toNatClampNeg (vp_nar .byte (v >>> ((48 : Int32).toInt64 &&& 63)).toInt32.toInt8.toInt32)) (7 : Int32).toNatClampNeg (vp_nar .byte (v >>> ((56 : Int32).toInt64 &&& 63)).toInt32.toInt8.toInt32))))] H := hP
                                        have hD : va_D A [(aX, .inr (5, [.ref bX, .int 7, .int (-1), .int 0, .int 0, .int 0, .long 0])), (bX, .inl (cB, 2000, .inl (upd (upd (upd (upd (upd (upd (upd (upd (fun _ => 0) (0 : Int32).toNatClampNeg (vp_nar .byte (v >>> ((0 : Int32).toInt64 &&& 63)).toInt32.toInt8.toInt32)) (1 : Int32).toNatClampNeg (vp_nar .byte (v >>> ((8 : Int32).toInt64 &&& 63)).toInt32.toInt8.toInt32)) (2 : Int32).toNatClampNeg (vp_nar .byte (v >>> ((16 : Int32).toInt64 &&& 63)).toInt32.toInt8.toInt32)) (3 : Int32).toNatClampNeg (vp_nar .byte (v >>> ((24 : Int32).toInt64 &&& 63)).toInt32.toInt8.toInt32)) (4 : Int32).toNatClampNeg (vp_nar .byte (v >>> ((32 : Int32).toInt64 &&& 63)).toInt32.toInt8.toInt32)) (5 : Int32).toNatClampNeg (vp_nar .byte (v >>> ((40 : Int32).toInt64 &&& 63)).toInt32.toInt8.toInt32)) (6 : Int32).toNatClampNeg (vp_nar .byte (v >>> ((48 : Int32).toInt64 &&& 63)).toInt32.toInt8.toInt32)) (7 : Int32).toNatClampNeg (vp_nar .byte (v >>> ((56 : Int32).toInt64 &&& 63)).toInt32.toInt8.toInt32))))] := hD
                                        refine lv_aload_n hx hb dX5_takeBytes_62 rfl (lv_at hl 1 rfl) ?_
                                        refine lv_dup hx hb dX5_takeBytes_63 rfl ?_
                                        refine va_get (D := D) (ci := 5) (v := .int 7) (C := RX5) (T := TX5) (N := 7) hx hb hts iX5_takeBytes_X5 hown hK hP 0 rfl rfl 1 (by decide) (hts (.fieldLink RX5 19 "TapeCalculator$Text" "length" "I") (List.mem_of_getElem? (i := 1) rfl)) (fun _ h9 => h9) rfl dX5_takeBytes_64 ?_
                                        refine lv_iconst (v := 1) hx hb dX5_takeBytes_67 (by decide) ?_
                                        refine lv_iadd hx hb dX5_takeBytes_68 ?_
                                        refine lv_topi (fun x_175 ex_175 => ?_)
                                        obtain rfl : x_175 = 8 := ex_175.trans (by decide)
                                        refine va_put (D := D) (ci := 5) (v := .int 8) (ty := .int) (C := RX5) (T := TX5) (N := 7) hx hb hts iX5_takeBytes_X5 tyX5 tyX5_ok nmX5 hown hK hP hD hS 0 rfl rfl 1 (by decide) (hts (.fieldLink RX5 19 "TapeCalculator$Text" "length" "I") (List.mem_of_getElem? (i := 1) rfl)) (fun _ h9 => h9) rfl (by decide +kernel) rfl rfl (Nat.le_of_ble_eq_true rfl) dX5_takeBytes_69 (fun H locs hP hD hS => ?_)
                                        have hP : va_P D vwCl [(aX, .inr (5, [.ref bX, .int 8, .int (-1), .int 0, .int 0, .int 0, .long 0])), (bX, .inl (cB, 2000, .inl (upd (upd (upd (upd (upd (upd (upd (upd (fun _ => 0) (0 : Int32).toNatClampNeg (vp_nar .byte (v >>> ((0 : Int32).toInt64 &&& 63)).toInt32.toInt8.toInt32)) (1 : Int32).toNatClampNeg (vp_nar .byte (v >>> ((8 : Int32).toInt64 &&& 63)).toInt32.toInt8.toInt32)) (2 : Int32).toNatClampNeg (vp_nar .byte (v >>> ((16 : Int32).toInt64 &&& 63)).toInt32.toInt8.toInt32)) (3 : Int32).toNatClampNeg (vp_nar .byte (v >>> ((24 : Int32).toInt64 &&& 63)).toInt32.toInt8.toInt32)) (4 : Int32).toNatClampNeg (vp_nar .byte (v >>> ((32 : Int32).toInt64 &&& 63)).toInt32.toInt8.toInt32)) (5 : Int32).toNatClampNeg (vp_nar .byte (v >>> ((40 : Int32).toInt64 &&& 63)).toInt32.toInt8.toInt32)) (6 : Int32).toNatClampNeg (vp_nar .byte (v >>> ((48 : Int32).toInt64 &&& 63)).toInt32.toInt8.toInt32)) (7 : Int32).toNatClampNeg (vp_nar .byte (v >>> ((56 : Int32).toInt64 &&& 63)).toInt32.toInt8.toInt32))))] H := hP
                                        have hD : va_D A [(aX, .inr (5, [.ref bX, .int 8, .int (-1), .int 0, .int 0, .int 0, .long 0])), (bX, .inl (cB, 2000, .inl (upd (upd (upd (upd (upd (upd (upd (upd (fun _ => 0) (0 : Int32).toNatClampNeg (vp_nar .byte (v >>> ((0 : Int32).toInt64 &&& 63)).toInt32.toInt8.toInt32)) (1 : Int32).toNatClampNeg (vp_nar .byte (v >>> ((8 : Int32).toInt64 &&& 63)).toInt32.toInt8.toInt32)) (2 : Int32).toNatClampNeg (vp_nar .byte (v >>> ((16 : Int32).toInt64 &&& 63)).toInt32.toInt8.toInt32)) (3 : Int32).toNatClampNeg (vp_nar .byte (v >>> ((24 : Int32).toInt64 &&& 63)).toInt32.toInt8.toInt32)) (4 : Int32).toNatClampNeg (vp_nar .byte (v >>> ((32 : Int32).toInt64 &&& 63)).toInt32.toInt8.toInt32)) (5 : Int32).toNatClampNeg (vp_nar .byte (v >>> ((40 : Int32).toInt64 &&& 63)).toInt32.toInt8.toInt32)) (6 : Int32).toNatClampNeg (vp_nar .byte (v >>> ((48 : Int32).toInt64 &&& 63)).toInt32.toInt8.toInt32)) (7 : Int32).toNatClampNeg (vp_nar .byte (v >>> ((56 : Int32).toInt64 &&& 63)).toInt32.toInt8.toInt32))))] := hD
                                        refine lv_iinc (v := 8) (lv' := [(4, .int 8), (0, .ref aX), (1, .long v), (3, .int 8)]) hx hb dX5_takeBytes_72 hl (k := 0) rfl (by decide) (by decide) rfl (fun ls hl => ?_)
                                        refine lv_goto (tgt := 26) hx hb dX5_takeBytes_75 (by decide) ?_
                                        refine lv_iload hx hb dX5_takeBytes_26 (lv_at hl 0 rfl) ?_
                                        refine lv_iload_n hx hb dX5_takeBytes_28 rfl (lv_at hl 3 rfl) ?_
                                        refine lv_icmp_ge (tgt := 78) hx hb dX5_takeBytes_29 (by decide) (fun c_29_175 => ?_) (fun c_29_175 => ?_)
                                        · have t_29_175 := c_29_175
                                          try simp only [kb_eq0, kb_ne0, lg_cmp_lt, lg_cmp_le, lg_cmp_gt, lg_cmp_ge, lg_cmp_eq] at t_29_175
                                          try simp only [Int32.lt_iff_toInt_lt, Int32.le_iff_toInt_le, ← Int32.toInt_inj, Int64.lt_iff_toInt_lt, Int64.le_iff_toInt_le, ← Int64.toInt_inj, Int32.toInt_toInt64, Int32.reduceToInt, Int64.reduceToInt] at t_29_175
                                          refine lv_iconst (v := 1) hx hb dX5_takeBytes_78 (by decide) ?_
                                          refine kIret (u := (upd (upd (upd (upd (upd (upd (upd (upd (fun _ => 0) (0 : Int32).toNatClampNeg (vp_nar .byte (v >>> ((0 : Int32).toInt64 &&& 63)).toInt32.toInt8.toInt32)) (1 : Int32).toNatClampNeg (vp_nar .byte (v >>> ((8 : Int32).toInt64 &&& 63)).toInt32.toInt8.toInt32)) (2 : Int32).toNatClampNeg (vp_nar .byte (v >>> ((16 : Int32).toInt64 &&& 63)).toInt32.toInt8.toInt32)) (3 : Int32).toNatClampNeg (vp_nar .byte (v >>> ((24 : Int32).toInt64 &&& 63)).toInt32.toInt8.toInt32)) (4 : Int32).toNatClampNeg (vp_nar .byte (v >>> ((32 : Int32).toInt64 &&& 63)).toInt32.toInt8.toInt32)) (5 : Int32).toNatClampNeg (vp_nar .byte (v >>> ((40 : Int32).toInt64 &&& 63)).toInt32.toInt8.toInt32)) (6 : Int32).toNatClampNeg (vp_nar .byte (v >>> ((48 : Int32).toInt64 &&& 63)).toInt32.toInt8.toInt32)) (7 : Int32).toNatClampNeg (vp_nar .byte (v >>> ((56 : Int32).toInt64 &&& 63)).toInt32.toInt8.toInt32))) hx hb hr rfl hlocks hS dX5_takeBytes_79 ?_ (hP.sub [0, 1] rfl) (hD.sub [0, 1] (by decide) rfl)
                                          exact rfl
                                        · exact absurd (by decide) c_29_175
      · exact absurd (by decide) c_18_142
set_option maxRecDepth 100000 in
theorem iX7_feed_X7 : ∀ w ∈ wsX70, w ∈ wsX7_feed := fun w h => (goodIn_r (big := wsX7_feed) wsX70 [10, 11, 12, 13, 14, 15, 16, 17, 18, 19, 20] rfl (by decide +kernel) w h).1
set_option maxRecDepth 100000 in
theorem iX7_feed_X5 : ∀ w ∈ wsX50, w ∈ wsX7_feed := fun w h => (goodIn_r (big := wsX7_feed) wsX50 [21, 22, 23, 24, 25, 26, 27] rfl (by decide +kernel) w h).1
set_option maxRecDepth 100000 in
set_option maxHeartbeats 4000000 in
theorem c_feed (l : Launch) (D : va_G) (cI cL cB cZ cT : ClassId) (sz : Nat) (h0 aS aA aU aX aW : Nat) (bX : Nat) (v : Int64) (n : Int32) : kM (S := (Int32 × (Nat → Int32))) l yX7_feed wsX7_feed ({ frames := 1, cells := 0, slots := 0, locals := 24 }) D (kT cI cL cB cZ cT) [.ref h0, .long v, .int n] [(h0, .inr (7, [.ref aS, .ref aA, .ref aU, .ref aX, .ref aW, .int 0, .int 0, .int 0, .int 0, .int 0, .long 0])), (aX, .inr (5, [.ref bX, .int 0, .int (-1), .int 0, .int 0, .int 0, .long 0])), (bX, .inl (cB, 2000, .inl (fun _ => 0)))] sz eI (fun r _ => r = (kif (1 ≤ n.toInt ∧ n.toInt ≤ 8) n (-1))) (fun u => [(h0, .inr (7, [.ref aS, .ref aA, .ref aU, .ref aX, .ref aW, .int 0, .int 0, .int 0, .int 0, .int 0, .long 0])), (aX, .inr (5, [.ref bX, .int u.1, .int (-1), .int 0, .int 0, .int 0, .long 0])), (bX, .inl (cB, 2000, .inl u.2))]) 0 0 := by
  refine kStart (cc := cX7_feed) (maxL := 4) (ret := (some .int)) (own := RX7) (by decide) rfl rfl (Nat.le_of_ble_eq_true rfl) ?_
  intro p e s m args below meth c A ls hx hb hr hml hown hts hlocks hnm hsz hA hG hP hD hS hl
  have hK := hG.1
  have hl : lv_has ls 4 [(0, .ref h0), (1, .long v), (3, .int n)] := hl
  refine lv_iload_n hx hb dX7_feed_0 rfl (lv_at hl 2 rfl) ?_
  refine lv_iconst (v := 1) hx hb dX7_feed_1 (by decide) ?_
  refine lv_icmp_lt (tgt := 11) hx hb dX7_feed_2 (by decide) (fun c_2_0 => ?_) (fun c_2_0 => ?_)
  · have t_2_0 := c_2_0
    try simp only [kb_eq0, kb_ne0, lg_cmp_lt, lg_cmp_le, lg_cmp_gt, lg_cmp_ge, lg_cmp_eq] at t_2_0
    try simp only [Int32.lt_iff_toInt_lt, Int32.le_iff_toInt_le, ← Int32.toInt_inj, Int64.lt_iff_toInt_lt, Int64.le_iff_toInt_le, ← Int64.toInt_inj, Int32.toInt_toInt64, Int32.reduceToInt, Int64.reduceToInt] at t_2_0
    refine lv_iconst (v := (-1)) hx hb dX7_feed_11 (by decide) ?_
    refine kIret (u := (0, (fun _ => 0))) hx hb hr rfl hlocks hS dX7_feed_12 ?_ (hP.sub [0, 1, 2] rfl) (hD.sub [0, 1, 2] (by decide) rfl)
    first
      | exact (kif_t (by omega)).symm
      | exact (kif_f (by omega)).symm
  · have t_2_0 := c_2_0
    try simp only [kb_eq0, kb_ne0, lg_cmp_lt, lg_cmp_le, lg_cmp_gt, lg_cmp_ge, lg_cmp_eq] at t_2_0
    try simp only [Int32.lt_iff_toInt_lt, Int32.le_iff_toInt_le, ← Int32.toInt_inj, Int64.lt_iff_toInt_lt, Int64.le_iff_toInt_le, ← Int64.toInt_inj, Int32.toInt_toInt64, Int32.reduceToInt, Int64.reduceToInt] at t_2_0
    refine lv_iload_n hx hb dX7_feed_5 rfl (lv_at hl 2 rfl) ?_
    refine lv_bipush (v := 8) hx hb dX7_feed_6 (by decide) ?_
    refine lv_icmp_le (tgt := 13) hx hb dX7_feed_8 (by decide) (fun c_8_1 => ?_) (fun c_8_1 => ?_)
    · have t_8_1 := c_8_1
      try simp only [kb_eq0, kb_ne0, lg_cmp_lt, lg_cmp_le, lg_cmp_gt, lg_cmp_ge, lg_cmp_eq] at t_8_1
      try simp only [Int32.lt_iff_toInt_lt, Int32.le_iff_toInt_le, ← Int32.toInt_inj, Int64.lt_iff_toInt_lt, Int64.le_iff_toInt_le, ← Int64.toInt_inj, Int32.toInt_toInt64, Int32.reduceToInt, Int64.reduceToInt] at t_8_1
      refine lv_aload_n hx hb dX7_feed_13 rfl (lv_at hl 0 rfl) ?_
      refine va_get (D := D) (ci := 7) (v := .ref aX) (C := RX7) (T := TX7) (N := 11) hx hb hts iX7_feed_X7 hown hK hP 0 rfl rfl 3 (by decide) (hts (.fieldLink RX7 33 "TapeCalculator" "text" "LTapeCalculator$Text;") (List.mem_of_getElem? (i := 1) rfl)) (fun _ h9 => h9) rfl dX7_feed_14 ?_
      refine lv_lload_n hx hb dX7_feed_17 rfl (lv_at hl 1 rfl) ?_
      refine lv_iload_n hx hb dX7_feed_18 rfl (lv_at hl 2 rfl) ?_
      refine kCallI (wr := [(h0, .inr (7, [.ref aS, .ref aA, .ref aU, .ref aX, .ref aW, .int 0, .int 0, .int 0, .int 0, .int 0, .long 0]))]) (va_runV (As := [.long v, .int n]) (rest := []) ⟨hx, hb, hml, hown, hts⟩ (c_takeBytes l D cI cL cB cZ cT _ aX bX v n ⟨by omega, by omega⟩) (cwV 2 hts gX7_feed_X5_takeBytes rfl rfl rfl (by decide +kernel) ⟨Nat.le_of_ble_eq_true rfl, Nat.le_of_ble_eq_true rfl⟩) (kPreV hG hP hD [1, 2] rfl (by decide) 0 5 rfl rfl rfl) rfl rfl hl.1 rfl (lv_room (Nat.le_of_ble_eq_true rfl)) dX7_feed_19 ⟨Nat.le_of_ble_eq_true rfl, Nat.le_of_ble_eq_true rfl⟩) hA hP hD hS [1, 2] [0] rfl rfl (by decide) (by decide) (fun r_3 u_r_3 H locs wr_3 hP hD hS => ?_)
      have hP : va_P D vwCl [(h0, .inr (7, [.ref aS, .ref aA, .ref aU, .ref aX, .ref aW, .int 0, .int 0, .int 0, .int 0, .int 0, .long 0])), (aX, .inr (5, [.ref bX, .int n, .int (-1), .int 0, .int 0, .int 0, .long 0])), (bX, .inl (cB, 2000, .inl u_r_3))] H := hP
      have hD : va_D A [(h0, .inr (7, [.ref aS, .ref aA, .ref aU, .ref aX, .ref aW, .int 0, .int 0, .int 0, .int 0, .int 0, .long 0])), (aX, .inr (5, [.ref bX, .int n, .int (-1), .int 0, .int 0, .int 0, .long 0])), (bX, .inl (cB, 2000, .inl u_r_3))] := hD
      try dsimp only at wr_3
      subst wr_3
      refine lv_if_eq (tgt := 35) hx hb dX7_feed_22 (by decide) (fun c_22_3 => ?_) (fun c_22_3 => ?_)
      · exact absurd c_22_3 (by decide)
      · have t_22_3 := c_22_3
        try simp only [kb_eq0, kb_ne0, lg_cmp_lt, lg_cmp_le, lg_cmp_gt, lg_cmp_ge, lg_cmp_eq] at t_22_3
        try simp only [Int32.lt_iff_toInt_lt, Int32.le_iff_toInt_le, ← Int32.toInt_inj, Int64.lt_iff_toInt_lt, Int64.le_iff_toInt_le, ← Int64.toInt_inj, Int32.toInt_toInt64, Int32.reduceToInt, Int64.reduceToInt] at t_22_3
        refine lv_aload_n hx hb dX7_feed_25 rfl (lv_at hl 0 rfl) ?_
        refine va_get (D := D) (ci := 7) (v := .ref aX) (C := RX7) (T := TX7) (N := 11) hx hb hts iX7_feed_X7 hown hK hP 0 rfl rfl 3 (by decide) (hts (.fieldLink RX7 33 "TapeCalculator" "text" "LTapeCalculator$Text;") (List.mem_of_getElem? (i := 1) rfl)) (fun _ h9 => h9) rfl dX7_feed_26 ?_
        refine va_get (D := D) (ci := 5) (v := .int n) (C := RX5) (T := TX5) (N := 7) hx hb hts iX7_feed_X5 hown hK hP 1 rfl rfl 1 (by decide) (hts (.fieldLink RX7 147 "TapeCalculator$Text" "length" "I") (List.mem_of_getElem? (i := 2) rfl)) (fun _ h9 => h9) rfl dX7_feed_29 ?_
        refine lv_goto (tgt := 37) hx hb dX7_feed_32 (by decide) ?_
        refine kIret (u := (n, u_r_3)) hx hb hr rfl hlocks hS dX7_feed_37 ?_ (hP.sub [0, 1, 2] rfl) (hD.sub [0, 1, 2] (by decide) rfl)
        first
          | exact (kif_t (by omega)).symm
          | exact (kif_f (by omega)).symm
    · have t_8_1 := c_8_1
      try simp only [kb_eq0, kb_ne0, lg_cmp_lt, lg_cmp_le, lg_cmp_gt, lg_cmp_ge, lg_cmp_eq] at t_8_1
      try simp only [Int32.lt_iff_toInt_lt, Int32.le_iff_toInt_le, ← Int32.toInt_inj, Int64.lt_iff_toInt_lt, Int64.le_iff_toInt_le, ← Int64.toInt_inj, Int32.toInt_toInt64, Int32.reduceToInt, Int64.reduceToInt] at t_8_1
      refine lv_iconst (v := (-1)) hx hb dX7_feed_11 (by decide) ?_
      refine kIret (u := (0, (fun _ => 0))) hx hb hr rfl hlocks hS dX7_feed_12 ?_ (hP.sub [0, 1, 2] rfl) (hD.sub [0, 1, 2] (by decide) rfl)
      first
        | exact (kif_t (by omega)).symm
        | exact (kif_f (by omega)).symm
