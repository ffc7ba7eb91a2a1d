set_option maxRecDepth 100000 in
theorem iX2_addByte_X2 : ∀ w ∈ wsX20, w ∈ wsX2_addByte := fun w h => (goodIn_r (big := wsX2_addByte) wsX20 [3, 4] rfl (by decide +kernel) w h).1
set_option maxRecDepth 100000 in
set_option maxHeartbeats 4000000 in
theorem g_addByte (l : Launch) (D : va_G) (cI cL cB cZ cT : ClassId) (sz : Nat) (aW bW : Nat) (wl : Int32) (fw : Nat → Int32) (b : Int32) : kM (S := (Int32 × (Nat → Int32))) l yX2_addByte wsX2_addByte ({ frames := 0, cells := 0, slots := 0, locals := 0 }) D (kT cI cL cB cZ cT) [.ref aW, .int b] [(aW, .inr (2, [.ref bW, .int wl])), (bW, .inl (cB, 11, .inl fw))] sz eV (fun _ _ => True) (fun u => [(aW, .inr (2, [.ref bW, .int u.1])), (bW, .inl (cB, 11, .inl u.2))]) 0 0 := by
  refine kStart (cc := cX2_addByte) (maxL := 2) (ret := none) (own := RX2) (by decide) rfl rfl (Nat.le_of_ble_eq_true rfl) ?_
  intro p e s m args below meth c A ls hx hb hr hml hown hts hlocks hnm hsz hA hG hP hD hS hl
  have hK := hG.1
  have hl : lv_has ls 2 [(0, .ref aW), (1, .int b)] := hl
  refine lv_aload_n hx hb dX2_addByte_0 rfl (lv_at hl 0 rfl) ?_
  refine va_get (D := D) (ci := 2) (v := .int wl) (C := RX2) (T := TX2) (N := 2) hx hb hts iX2_addByte_X2 hown hK hP 0 rfl rfl 1 (by decide) (hts (.fieldLink RX2 15 "TapeCalculator$LineWriter" "length" "I") (List.mem_of_getElem? (i := 1) rfl)) (fun _ h9 => h9) rfl dX2_addByte_1 ?_
  refine lv_if_lt (tgt := 40) hx hb dX2_addByte_4 (by decide) (fun c_4_0 => ?_) (fun c_4_0 => ?_)
  · have t_4_0 := c_4_0
    try simp only [kb_eq0, kb_ne0, lg_cmp_lt, lg_cmp_le, lg_cmp_gt, lg_cmp_ge, lg_cmp_eq] at t_4_0
    try simp only [Int32.lt_iff_toInt_lt, Int32.le_iff_toInt_le, ← Int32.toInt_inj, Int64.lt_iff_toInt_lt, Int64.le_iff_toInt_le, ← Int64.toInt_inj, Int32.toInt_toInt64, Int32.reduceToInt, Int64.reduceToInt] at t_4_0
    refine kVret (u := (wl, fw)) hx hb hr hlocks hS dX2_addByte_40 ?_ (hP.sub [0, 1] rfl) (hD.sub [0, 1] (by decide) rfl)
    exact trivial
  · have t_4_0 := c_4_0
    try simp only [kb_eq0, kb_ne0, lg_cmp_lt, lg_cmp_le, lg_cmp_gt, lg_cmp_ge, lg_cmp_eq] at t_4_0
    try simp only [Int32.lt_iff_toInt_lt, Int32.le_iff_toInt_le, ← Int32.toInt_inj, Int64.lt_iff_toInt_lt, Int64.le_iff_toInt_le, ← Int64.toInt_inj, Int32.toInt_toInt64, Int32.reduceToInt, Int64.reduceToInt] at t_4_0
    refine lv_aload_n hx hb dX2_addByte_7 rfl (lv_at hl 0 rfl) ?_
    refine va_get (D := D) (ci := 2) (v := .int wl) (C := RX2) (T := TX2) (N := 2) hx hb hts iX2_addByte_X2 hown hK hP 0 rfl rfl 1 (by decide) (hts (.fieldLink RX2 15 "TapeCalculator$LineWriter" "length" "I") (List.mem_of_getElem? (i := 1) rfl)) (fun _ h9 => h9) rfl dX2_addByte_8 ?_
    refine lv_aload_n hx hb dX2_addByte_11 rfl (lv_at hl 0 rfl) ?_
    refine va_get (D := D) (ci := 2) (v := .ref bW) (C := RX2) (T := TX2) (N := 2) hx hb hts iX2_addByte_X2 hown hK hP 0 rfl rfl 0 (by decide) (hts (.fieldLink RX2 9 "TapeCalculator$LineWriter" "row" "[B") (List.mem_of_getElem? (i := 2) rfl)) (fun _ h9 => h9) rfl dX2_addByte_12 ?_
    refine va_alen hx hb hK hP 1 2 rfl rfl (v := 11) rfl dX2_addByte_15 ?_
    refine lv_icmp_ge (tgt := 40) hx hb dX2_addByte_16 (by decide) (fun c_16_1 => ?_) (fun c_16_1 => ?_)
    · have t_16_1 := c_16_1
      try simp only [kb_eq0, kb_ne0, lg_cmp_lt, lg_cmp_le, lg_cmp_gt, lg_cmp_ge, lg_cmp_eq] at t_16_1
      try simp only [Int32.lt_iff_toInt_lt, Int32.le_iff_toInt_le, ← Int32.toInt_inj, Int64.lt_iff_toInt_lt, Int64.le_iff_toInt_le, ← Int64.toInt_inj, Int32.toInt_toInt64, Int32.reduceToInt, Int64.reduceToInt] at t_16_1
      refine kVret (u := (wl, fw)) hx hb hr hlocks hS dX2_addByte_40 ?_ (hP.sub [0, 1] rfl) (hD.sub [0, 1] (by decide) rfl)
      exact trivial
    · have t_16_1 := c_16_1
      try simp only [kb_eq0, kb_ne0, lg_cmp_lt, lg_cmp_le, lg_cmp_gt, lg_cmp_ge, lg_cmp_eq] at t_16_1
      try simp only [Int32.lt_iff_toInt_lt, Int32.le_iff_toInt_le, ← Int32.toInt_inj, Int64.lt_iff_toInt_lt, Int64.le_iff_toInt_le, ← Int64.toInt_inj, Int32.toInt_toInt64, Int32.reduceToInt, Int64.reduceToInt] at t_16_1
      refine lv_aload_n hx hb dX2_addByte_19 rfl (lv_at hl 0 rfl) ?_
      refine va_get (D := D) (ci := 2) (v := .ref bW) (C := RX2) (T := TX2) (N := 2) hx hb hts iX2_addByte_X2 hown hK hP 0 rfl rfl 0 (by decide) (hts (.fieldLink RX2 9 "TapeCalculator$LineWriter" "row" "[B") (List.mem_of_getElem? (i := 2) rfl)) (fun _ h9 => h9) rfl dX2_addByte_20 ?_
      refine lv_aload_n hx hb dX2_addByte_23 rfl (lv_at hl 0 rfl) ?_
      refine va_get (D := D) (ci := 2) (v := .int wl) (C := RX2) (T := TX2) (N := 2) hx hb hts iX2_addByte_X2 hown hK hP 0 rfl rfl 1 (by decide) (hts (.fieldLink RX2 15 "TapeCalculator$LineWriter" "length" "I") (List.mem_of_getElem? (i := 1) rfl)) (fun _ h9 => h9) rfl dX2_addByte_24 ?_
      refine lv_iload_n hx hb dX2_addByte_27 rfl (lv_at hl 1 rfl) ?_
      refine lv_i2b hx hb dX2_addByte_28 rfl ?_
      refine va_bast hx hb hK hP hD hS 1 2 rfl rfl (vp_in_iff.mpr (by omega)) dX2_addByte_29 (fun H locs hP hD hS => ?_)
      have hP : va_P D vwCl [(aW, .inr (2, [.ref bW, .int wl])), (bW, .inl (cB, 11, .inl (upd fw wl.toNatClampNeg (vp_nar .byte b.toInt8.toInt32))))] H := hP
      have hD : va_D A [(aW, .inr (2, [.ref bW, .int wl])), (bW, .inl (cB, 11, .inl (upd fw wl.toNatClampNeg (vp_nar .byte b.toInt8.toInt32))))] := hD
      refine lv_aload_n hx hb dX2_addByte_30 rfl (lv_at hl 0 rfl) ?_
      refine lv_dup hx hb dX2_addByte_31 rfl ?_
      refine va_get (D := D) (ci := 2) (v := .int wl) (C := RX2) (T := TX2) (N := 2) hx hb hts iX2_addByte_X2 hown hK hP 0 rfl rfl 1 (by decide) (hts (.fieldLink RX2 15 "TapeCalculator$LineWriter" "length" "I") (List.mem_of_getElem? (i := 1) rfl)) (fun _ h9 => h9) rfl dX2_addByte_32 ?_
      refine lv_iconst (v := 1) hx hb dX2_addByte_35 (by decide) ?_
      refine lv_iadd hx hb dX2_addByte_36 ?_
      refine lv_topi (fun x_3 ex_3 => ?_)
      refine va_put (D := D) (ci := 2) (v := .int x_3) (ty := .int) (C := RX2) (T := TX2) (N := 2) hx hb hts iX2_addByte_X2 tyX2 tyX2_ok nmX2 hown hK hP hD hS 0 rfl rfl 1 (by decide) (hts (.fieldLink RX2 15 "TapeCalculator$LineWriter" "length" "I") (List.mem_of_getElem? (i := 1) rfl)) (fun _ h9 => h9) rfl (by decide +kernel) rfl rfl (Nat.le_of_ble_eq_true rfl) dX2_addByte_37 (fun H locs hP hD hS => ?_)
      have hP : va_P D vwCl [(aW, .inr (2, [.ref bW, .int x_3])), (bW, .inl (cB, 11, .inl (upd fw wl.toNatClampNeg (vp_nar .byte b.toInt8.toInt32))))] H := hP
      have hD : va_D A [(aW, .inr (2, [.ref bW, .int x_3])), (bW, .inl (cB, 11, .inl (upd fw wl.toNatClampNeg (vp_nar .byte b.toInt8.toInt32))))] := hD
      refine kVret (u := (x_3, (upd fw wl.toNatClampNeg (vp_nar .byte b.toInt8.toInt32)))) hx hb hr hlocks hS dX2_addByte_40 ?_ (hP.sub [0, 1] rfl) (hD.sub [0, 1] (by decide) rfl)
      exact trivial
set_option maxRecDepth 100000 in
set_option maxHeartbeats 4000000 in
theorem g_addNumber (l : Launch) (D : va_G) (cI cL cB cZ cT : ClassId) (sz : Nat) (aW bW : Nat) (wl : Int32) (fw : Nat → Int32) (n : Int32) : kM (S := (Int32 × (Nat → Int32))) l yX2_addNumber wsX2_addNumber ({ frames := 1, cells := 0, slots := 0, locals := 21 }) D (kT cI cL cB cZ cT) [.ref aW, .int n] [(aW, .inr (2, [.ref bW, .int wl])), (bW, .inl (cB, 11, .inl fw))] sz eV (fun _ _ => True) (fun u => [(aW, .inr (2, [.ref bW, .int u.1])), (bW, .inl (cB, 11, .inl u.2))]) 0 0 := by
  refine kStart (cc := cX2_addNumber) (maxL := 3) (ret := none) (own := RX2) (by decide) rfl rfl (Nat.le_of_ble_eq_true rfl) ?_
  intro p e s m args below meth c A ls hx hb hr hml hown hts hlocks hnm hsz hA hG hP hD hS hl
  have hK := hG.1
  have hl : lv_has ls 3 [(0, .ref aW), (1, .int n)] := hl
  refine lv_sipush (v := 1000) hx hb dX2_addNumber_0 (by decide) ?_
  refine lv_istore_n (lv' := [(2, .int 1000), (0, .ref aW), (1, .int n)]) hx hb dX2_addNumber_3 rfl hl (by decide) rfl (fun ls hl => ?_)
  refine lv_iload_n hx hb dX2_addNumber_4 rfl (lv_at hl 0 rfl) ?_
  refine lv_if_le (tgt := 40) hx hb dX2_addNumber_5 (by decide) (fun c_5_0 => ?_) (fun c_5_0 => ?_)
  · exact absurd c_5_0 (by decide)
  · have t_5_0 := c_5_0
    try simp only [kb_eq0, kb_ne0, lg_cmp_lt, lg_cmp_le, lg_cmp_gt, lg_cmp_ge, lg_cmp_eq] at t_5_0
    try simp only [Int32.lt_iff_toInt_lt, Int32.le_iff_toInt_le, ← Int32.toInt_inj, Int64.lt_iff_toInt_lt, Int64.le_iff_toInt_le, ← Int64.toInt_inj, Int32.toInt_toInt64, Int32.reduceToInt, Int64.reduceToInt] at t_5_0
    have J32 : ∀ (lj : Int32) (fj : Nat → Int32), ∀ (H : Heap) (locs : List Loc), va_P D vwCl [(aW, .inr (2, [.ref bW, .int lj])), (bW, .inl (cB, 11, .inl fj))] H → va_D A [(aW, .inr (2, [.ref bW, .int lj])), (bW, .inl (cB, 11, .inl fj))] → va_S A s.heap H locs → ∀ ls : Array Slot, lv_has ls 3 [(2, .int 1000), (0, .ref aW), (1, .int n)] → W p l e ({ frames := 1, cells := 0, slots := 0, locals := 21 }) s m args below meth c H locs 0 0 (MQ below (kQ (S := (Int32 × (Nat → Int32))) eV (fun _ _ => True) D (fun u => [(aW, .inr (2, [.ref bW, .int u.1])), (bW, .inl (cB, 11, .inl u.2))]) A) args s 0 0 A) (F0 m 32 ls []) := by
      intro lj fj  H locs hP hD hS ls hl
      refine lv_iload_n hx hb dX2_addNumber_32 rfl (lv_at hl 0 rfl) ?_
      refine lv_bipush (v := 10) hx hb dX2_addNumber_33 (by decide) ?_
      refine lv_idiv hx hb dX2_addNumber_35 (by decide) ?_
      refine lv_topi (fun x_2 ex_2 => ?_)
      obtain rfl : x_2 = 100 := ex_2.trans (by decide)
      refine lv_istore_n (lv' := [(2, .int 100), (0, .ref aW), (1, .int n)]) hx hb dX2_addNumber_36 rfl hl (by decide) rfl (fun ls hl => ?_)
      refine lv_goto (tgt := 4) hx hb dX2_addNumber_37 (by decide) ?_
      refine lv_iload_n hx hb dX2_addNumber_4 rfl (lv_at hl 0 rfl) ?_
      refine lv_if_le (tgt := 40) hx hb dX2_addNumber_5 (by decide) (fun c_5_2 => ?_) (fun c_5_2 => ?_)
      · exact absurd c_5_2 (by decide)
      · have t_5_2 := c_5_2
        try simp only [kb_eq0, kb_ne0, lg_cmp_lt, lg_cmp_le, lg_cmp_gt, lg_cmp_ge, lg_cmp_eq] at t_5_2
        try simp only [Int32.lt_iff_toInt_lt, Int32.le_iff_toInt_le, ← Int32.toInt_inj, Int64.lt_iff_toInt_lt, Int64.le_iff_toInt_le, ← Int64.toInt_inj, Int32.toInt_toInt64, Int32.reduceToInt, Int64.reduceToInt] at t_5_2
        have J32 : ∀ (lj : Int32) (fj : Nat → Int32), ∀ (H : Heap) (locs : List Loc), va_P D vwCl [(aW, .inr (2, [.ref bW, .int lj])), (bW, .inl (cB, 11, .inl fj))] H → va_D A [(aW, .inr (2, [.ref bW, .int lj])), (bW, .inl (cB, 11, .inl fj))] → va_S A s.heap H locs → ∀ ls : Array Slot, lv_has ls 3 [(2, .int 100), (0, .ref aW), (1, .int n)] → W p l e ({ frames := 1, cells := 0, slots := 0, locals := 21 }) s m args below meth c H locs 0 0 (MQ below (kQ (S := (Int32 × (Nat → Int32))) eV (fun _ _ => True) D (fun u => [(aW, .inr (2, [.ref bW, .int u.1])), (bW, .inl (cB, 11, .inl u.2))]) A) args s 0 0 A) (F0 m 32 ls []) := by
          intro lj fj  H locs hP hD hS ls hl
          refine lv_iload_n hx hb dX2_addNumber_32 rfl (lv_at hl 0 rfl) ?_
          refine lv_bipush (v := 10) hx hb dX2_addNumber_33 (by decide) ?_
          refine lv_idiv hx hb dX2_addNumber_35 (by decide) ?_
          refine lv_topi (fun x_4 ex_4 => ?_)
          obtain rfl : x_4 = 10 := ex_4.trans (by decide)
          refine lv_istore_n (lv' := [(2, .int 10), (0, .ref aW), (1, .int n)]) hx hb dX2_addNumber_36 rfl hl (by decide) rfl (fun ls hl => ?_)
          refine lv_goto (tgt := 4) hx hb dX2_addNumber_37 (by decide) ?_
          refine lv_iload_n hx hb dX2_addNumber_4 rfl (lv_at hl 0 rfl) ?_
          refine lv_if_le (tgt := 40) hx hb dX2_addNumber_5 (by decide) (fun c_5_4 => ?_) (fun c_5_4 => ?_)
          · exact absurd c_5_4 (by decide)
          · have t_5_4 := c_5_4
            try simp only [kb_eq0, kb_ne0, lg_cmp_lt, lg_cmp_le, lg_cmp_gt, lg_cmp_ge, lg_cmp_eq] at t_5_4
            try simp only [Int32.lt_iff_toInt_lt, Int32.le_iff_toInt_le, ← Int32.toInt_inj, Int64.lt_iff_toInt_lt, Int64.le_iff_toInt_le, ← Int64.toInt_inj, Int32.toInt_toInt64, Int32.reduceToInt, Int64.reduceToInt] at t_5_4
            have J32 : ∀ (lj : Int32) (fj : Nat → Int32), ∀ (H : Heap) (locs : List Loc), va_P D vwCl [(aW, .inr (2, [.ref bW, .int lj])), (bW, .inl (cB, 11, .inl fj))] H → va_D A [(aW, .inr (2, [.ref bW, .int lj])), (bW, .inl (cB, 11, .inl fj))] → va_S A s.heap H locs → ∀ ls : Array Slot, lv_has ls 3 [(2, .int 10), (0, .ref aW), (1, .int n)] → W p l e ({ frames := 1, cells := 0, slots := 0, locals := 21 }) s m args below meth c H locs 0 0 (MQ below (kQ (S := (Int32 × (Nat → Int32))) eV (fun _ _ => True) D (fun u => [(aW, .inr (2, [.ref bW, .int u.1])), (bW, .inl (cB, 11, .inl u.2))]) A) args s 0 0 A) (F0 m 32 ls []) := by
              intro lj fj  H locs hP hD hS ls hl
              refine lv_iload_n hx hb dX2_addNumber_32 rfl (lv_at hl 0 rfl) ?_
              refine lv_bipush (v := 10) hx hb dX2_addNumber_33 (by decide) ?_
              refine lv_idiv hx hb dX2_addNumber_35 (by decide) ?_
              refine lv_topi (fun x_6 ex_6 => ?_)
              obtain rfl : x_6 = 1 := ex_6.trans (by decide)
              refine lv_istore_n (lv' := [(2, .int 1), (0, .ref aW), (1, .int n)]) hx hb dX2_addNumber_36 rfl hl (by decide) rfl (fun ls hl => ?_)
              refine lv_goto (tgt := 4) hx hb dX2_addNumber_37 (by decide) ?_
              refine lv_iload_n hx hb dX2_addNumber_4 rfl (lv_at hl 0 rfl) ?_
              refine lv_if_le (tgt := 40) hx hb dX2_addNumber_5 (by decide) (fun c_5_6 => ?_) (fun c_5_6 => ?_)
              · exact absurd c_5_6 (by decide)
              · have t_5_6 := c_5_6
                try simp only [kb_eq0, kb_ne0, lg_cmp_lt, lg_cmp_le, lg_cmp_gt, lg_cmp_ge, lg_cmp_eq] at t_5_6
                try simp only [Int32.lt_iff_toInt_lt, Int32.le_iff_toInt_le, ← Int32.toInt_inj, Int64.lt_iff_toInt_lt, Int64.le_iff_toInt_le, ← Int64.toInt_inj, Int32.toInt_toInt64, Int32.reduceToInt, Int64.reduceToInt] at t_5_6
                have J32 : ∀ (lj : Int32) (fj : Nat → Int32), ∀ (H : Heap) (locs : List Loc), va_P D vwCl [(aW, .inr (2, [.ref bW, .int lj])), (bW, .inl (cB, 11, .inl fj))] H → va_D A [(aW, .inr (2, [.ref bW, .int lj])), (bW, .inl (cB, 11, .inl fj))] → va_S A s.heap H locs → ∀ ls : Array Slot, lv_has ls 3 [(2, .int 1), (0, .ref aW), (1, .int n)] → W p l e ({ frames := 1, cells := 0, slots := 0, locals := 21 }) s m args below meth c H locs 0 0 (MQ below (kQ (S := (Int32 × (Nat → Int32))) eV (fun _ _ => True) D (fun u => [(aW, .inr (2, [.ref bW, .int u.1])), (bW, .inl (cB, 11, .inl u.2))]) A) args s 0 0 A) (F0 m 32 ls []) := by
                  intro lj fj  H locs hP hD hS ls hl
                  refine lv_iload_n hx hb dX2_addNumber_32 rfl (lv_at hl 0 rfl) ?_
                  refine lv_bipush (v := 10) hx hb dX2_addNumber_33 (by decide) ?_
                  refine lv_idiv hx hb dX2_addNumber_35 (by decide) ?_
                  refine lv_topi (fun x_8 ex_8 => ?_)
                  obtain rfl : x_8 = 0 := ex_8.trans (by decide)
                  refine lv_istore_n (lv' := [(2, .int 0), (0, .ref aW), (1, .int n)]) hx hb dX2_addNumber_36 rfl hl (by decide) rfl (fun ls hl => ?_)
                  refine lv_goto (tgt := 4) hx hb dX2_addNumber_37 (by decide) ?_
                  refine lv_iload_n hx hb dX2_addNumber_4 rfl (lv_at hl 0 rfl) ?_
                  refine lv_if_le (tgt := 40) hx hb dX2_addNumber_5 (by decide) (fun c_5_8 => ?_) (fun c_5_8 => ?_)
                  · have t_5_8 := c_5_8
                    try simp only [kb_eq0, kb_ne0, lg_cmp_lt, lg_cmp_le, lg_cmp_gt, lg_cmp_ge, lg_cmp_eq] at t_5_8
                    try simp only [Int32.lt_iff_toInt_lt, Int32.le_iff_toInt_le, ← Int32.toInt_inj, Int64.lt_iff_toInt_lt, Int64.le_iff_toInt_le, ← Int64.toInt_inj, Int32.toInt_toInt64, Int32.reduceToInt, Int64.reduceToInt] at t_5_8
                    refine kVret (u := (lj, fj)) hx hb hr hlocks hS dX2_addNumber_40 ?_ (hP.sub [0, 1] rfl) (hD.sub [0, 1] (by decide) rfl)
                    exact trivial
                  · exact absurd (by decide) c_5_8
                refine lv_iload_n hx hb dX2_addNumber_8 rfl (lv_at hl 2 rfl) ?_
                refine lv_iload_n hx hb dX2_addNumber_9 rfl (lv_at hl 0 rfl) ?_
                refine lv_icmp_ge (tgt := 18) hx hb dX2_addNumber_10 (by decide) (fun c_10_9 => ?_) (fun c_10_9 => ?_)
                · have t_10_9 := c_10_9
                  try simp only [kb_eq0, kb_ne0, lg_cmp_lt, lg_cmp_le, lg_cmp_gt, lg_cmp_ge, lg_cmp_eq] at t_10_9
                  try simp only [Int32.lt_iff_toInt_lt, Int32.le_iff_toInt_le, ← Int32.toInt_inj, Int64.lt_iff_toInt_lt, Int64.le_iff_toInt_le, ← Int64.toInt_inj, Int32.toInt_toInt64, Int32.reduceToInt, Int64.reduceToInt] at t_10_9
                  refine lv_aload_n hx hb dX2_addNumber_18 rfl (lv_at hl 1 rfl) ?_
                  refine lv_bipush (v := 48) hx hb dX2_addNumber_19 (by decide) ?_
                  refine lv_iload_n hx hb dX2_addNumber_21 rfl (lv_at hl 2 rfl) ?_
                  refine lv_iload_n hx hb dX2_addNumber_22 rfl (lv_at hl 0 rfl) ?_
                  refine lv_idiv hx hb dX2_addNumber_23 (by decide) ?_
                  refine lv_bipush (v := 10) hx hb dX2_addNumber_24 (by decide) ?_
                  refine lv_irem hx hb dX2_addNumber_26 (by decide) ?_
                  refine lv_iadd hx hb dX2_addNumber_27 ?_
                  refine lv_i2c hx hb dX2_addNumber_28 rfl ?_
                  refine kCallVd (wr := []) (va_runV (As := [.int ((48 + ((n / 1) - (n / 1) / 10 * 10)).toUInt32 % 65536).toInt32]) (rest := []) ⟨hx, hb, hml, hown, hts⟩ (g_addByte l D cI cL cB cZ cT _ aW bW lj fj ((48 + ((n / 1) - (n / 1) / 10 * 10)).toUInt32 % 65536).toInt32) (cwV 1 hts gX2_addNumber_X2_addByte rfl rfl rfl (by decide +kernel) ⟨Nat.le_of_ble_eq_true rfl, Nat.le_of_ble_eq_true rfl⟩) (kPreV hG hP hD [0, 1] rfl (by decide) 0 2 rfl rfl rfl) rfl rfl hl.1 rfl (lv_room (Nat.le_of_ble_eq_true rfl)) dX2_addNumber_29 ⟨Nat.le_of_ble_eq_true rfl, Nat.le_of_ble_eq_true rfl⟩) hA hP hD hS [0, 1] [] rfl rfl (by decide) (by decide) (fun _ u_r_11 H locs wr_11 hP hD hS => ?_)
                  have hP : va_P D vwCl [(aW, .inr (2, [.ref bW, .int u_r_11.1])), (bW, .inl (cB, 11, .inl u_r_11.2))] H := hP
                  have hD : va_D A [(aW, .inr (2, [.ref bW, .int u_r_11.1])), (bW, .inl (cB, 11, .inl u_r_11.2))] := hD
                  try dsimp only at wr_11
                  exact J32 u_r_11.1 u_r_11.2  _ _ (hP.sub [0, 1] rfl) (hD.sub [0, 1] (by decide) rfl) hS ls (lv_sub hl [0, 1, 2] rfl)
                · have t_10_9 := c_10_9
                  try simp only [kb_eq0, kb_ne0, lg_cmp_lt, lg_cmp_le, lg_cmp_gt, lg_cmp_ge, lg_cmp_eq] at t_10_9
                  try simp only [Int32.lt_iff_toInt_lt, Int32.le_iff_toInt_le, ← Int32.toInt_inj, Int64.lt_iff_toInt_lt, Int64.le_iff_toInt_le, ← Int64.toInt_inj, Int32.toInt_toInt64, Int32.reduceToInt, Int64.reduceToInt] at t_10_9
                  refine lv_iload_n hx hb dX2_addNumber_13 rfl (lv_at hl 0 rfl) ?_
                  refine lv_iconst (v := 1) hx hb dX2_addNumber_14 (by decide) ?_
                  refine lv_icmp_ne (tgt := 32) hx hb dX2_addNumber_15 (by decide) (fun c_15_11 => ?_) (fun c_15_11 => ?_)
                  · exact absurd (by decide) c_15_11
                  · have t_15_11 := c_15_11
                    try simp only [kb_eq0, kb_ne0, lg_cmp_lt, lg_cmp_le, lg_cmp_gt, lg_cmp_ge, lg_cmp_eq] at t_15_11
                    try simp only [Int32.lt_iff_toInt_lt, Int32.le_iff_toInt_le, ← Int32.toInt_inj, Int64.lt_iff_toInt_lt, Int64.le_iff_toInt_le, ← Int64.toInt_inj, Int32.toInt_toInt64, Int32.reduceToInt, Int64.reduceToInt] at t_15_11
                    refine lv_aload_n hx hb dX2_addNumber_18 rfl (lv_at hl 1 rfl) ?_
                    refine lv_bipush (v := 48) hx hb dX2_addNumber_19 (by decide) ?_
                    refine lv_iload_n hx hb dX2_addNumber_21 rfl (lv_at hl 2 rfl) ?_
                    refine lv_iload_n hx hb dX2_addNumber_22 rfl (lv_at hl 0 rfl) ?_
                    refine lv_idiv hx hb dX2_addNumber_23 (by decide) ?_
                    refine lv_bipush (v := 10) hx hb dX2_addNumber_24 (by decide) ?_
                    refine lv_irem hx hb dX2_addNumber_26 (by decide) ?_
                    refine lv_iadd hx hb dX2_addNumber_27 ?_
                    refine lv_i2c hx hb dX2_addNumber_28 rfl ?_
                    refine kCallVd (wr := []) (va_runV (As := [.int ((48 + ((n / 1) - (n / 1) / 10 * 10)).toUInt32 % 65536).toInt32]) (rest := []) ⟨hx, hb, hml, hown, hts⟩ (g_addByte l D cI cL cB cZ cT _ aW bW lj fj ((48 + ((n / 1) - (n / 1) / 10 * 10)).toUInt32 % 65536).toInt32) (cwV 1 hts gX2_addNumber_X2_addByte rfl rfl rfl (by decide +kernel) ⟨Nat.le_of_ble_eq_true rfl, Nat.le_of_ble_eq_true rfl⟩) (kPreV hG hP hD [0, 1] rfl (by decide) 0 2 rfl rfl rfl) rfl rfl hl.1 rfl (lv_room (Nat.le_of_ble_eq_true rfl)) dX2_addNumber_29 ⟨Nat.le_of_ble_eq_true rfl, Nat.le_of_ble_eq_true rfl⟩) hA hP hD hS [0, 1] [] rfl rfl (by decide) (by decide) (fun _ u_r_13 H locs wr_13 hP hD hS => ?_)
                    have hP : va_P D vwCl [(aW, .inr (2, [.ref bW, .int u_r_13.1])), (bW, .inl (cB, 11, .inl u_r_13.2))] H := hP
                    have hD : va_D A [(aW, .inr (2, [.ref bW, .int u_r_13.1])), (bW, .inl (cB, 11, .inl u_r_13.2))] := hD
                    try dsimp only at wr_13
                    exact J32 u_r_13.1 u_r_13.2  _ _ (hP.sub [0, 1] rfl) (hD.sub [0, 1] (by decide) rfl) hS ls (lv_sub hl [0, 1, 2] rfl)
            refine lv_iload_n hx hb dX2_addNumber_8 rfl (lv_at hl 2 rfl) ?_
            refine lv_iload_n hx hb dX2_addNumber_9 rfl (lv_at hl 0 rfl) ?_
            refine lv_icmp_ge (tgt := 18) hx hb dX2_addNumber_10 (by decide) (fun c_10_13 => ?_) (fun c_10_13 => ?_)
            · have t_10_13 := c_10_13
              try simp only [kb_eq0, kb_ne0, lg_cmp_lt, lg_cmp_le, lg_cmp_gt, lg_cmp_ge, lg_cmp_eq] at t_10_13
              try simp only [Int32.lt_iff_toInt_lt, Int32.le_iff_toInt_le, ← Int32.toInt_inj, Int64.lt_iff_toInt_lt, Int64.le_iff_toInt_le, ← Int64.toInt_inj, Int32.toInt_toInt64, Int32.reduceToInt, Int64.reduceToInt] at t_10_13
              refine lv_aload_n hx hb dX2_addNumber_18 rfl (lv_at hl 1 rfl) ?_
              refine lv_bipush (v := 48) hx hb dX2_addNumber_19 (by decide) ?_
              refine lv_iload_n hx hb dX2_addNumber_21 rfl (lv_at hl 2 rfl) ?_
              refine lv_iload_n hx hb dX2_addNumber_22 rfl (lv_at hl 0 rfl) ?_
              refine lv_idiv hx hb dX2_addNumber_23 (by decide) ?_
              refine lv_bipush (v := 10) hx hb dX2_addNumber_24 (by decide) ?_
              refine lv_irem hx hb dX2_addNumber_26 (by decide) ?_
              refine lv_iadd hx hb dX2_addNumber_27 ?_
              refine lv_i2c hx hb dX2_addNumber_28 rfl ?_
              refine kCallVd (wr := []) (va_runV (As := [.int ((48 + ((n / 10) - (n / 10) / 10 * 10)).toUInt32 % 65536).toInt32]) (rest := []) ⟨hx, hb, hml, hown, hts⟩ (g_addByte l D cI cL cB cZ cT _ aW bW lj fj ((48 + ((n / 10) - (n / 10) / 10 * 10)).toUInt32 % 65536).toInt32) (cwV 1 hts gX2_addNumber_X2_addByte rfl rfl rfl (by decide +kernel) ⟨Nat.le_of_ble_eq_true rfl, Nat.le_of_ble_eq_true rfl⟩) (kPreV hG hP hD [0, 1] rfl (by decide) 0 2 rfl rfl rfl) rfl rfl hl.1 rfl (lv_room (Nat.le_of_ble_eq_true rfl)) dX2_addNumber_29 ⟨Nat.le_of_ble_eq_true rfl, Nat.le_of_ble_eq_true rfl⟩) hA hP hD hS [0, 1] [] rfl rfl (by decide) (by decide) (fun _ u_r_15 H locs wr_15 hP hD hS => ?_)
              have hP : va_P D vwCl [(aW, .inr (2, [.ref bW, .int u_r_15.1])), (bW, .inl (cB, 11, .inl u_r_15.2))] H := hP
              have hD : va_D A [(aW, .inr (2, [.ref bW, .int u_r_15.1])), (bW, .inl (cB, 11, .inl u_r_15.2))] := hD
              try dsimp only at wr_15
              exact J32 u_r_15.1 u_r_15.2  _ _ (hP.sub [0, 1] rfl) (hD.sub [0, 1] (by decide) rfl) hS ls (lv_sub hl [0, 1, 2] rfl)
            · have t_10_13 := c_10_13
              try simp only [kb_eq0, kb_ne0, lg_cmp_lt, lg_cmp_le, lg_cmp_gt, lg_cmp_ge, lg_cmp_eq] at t_10_13
              try simp only [Int32.lt_iff_toInt_lt, Int32.le_iff_toInt_le, ← Int32.toInt_inj, Int64.lt_iff_toInt_lt, Int64.le_iff_toInt_le, ← Int64.toInt_inj, Int32.toInt_toInt64, Int32.reduceToInt, Int64.reduceToInt] at t_10_13
              refine lv_iload_n hx hb dX2_addNumber_13 rfl (lv_at hl 0 rfl) ?_
              refine lv_iconst (v := 1) hx hb dX2_addNumber_14 (by decide) ?_
              refine lv_icmp_ne (tgt := 32) hx hb dX2_addNumber_15 (by decide) (fun c_15_15 => ?_) (fun c_15_15 => ?_)
              · have t_15_15 := c_15_15
                try simp only [kb_eq0, kb_ne0, lg_cmp_lt, lg_cmp_le, lg_cmp_gt, lg_cmp_ge, lg_cmp_eq] at t_15_15
                try simp only [Int32.lt_iff_toInt_lt, Int32.le_iff_toInt_le, ← Int32.toInt_inj, Int64.lt_iff_toInt_lt, Int64.le_iff_toInt_le, ← Int64.toInt_inj, Int32.toInt_toInt64, Int32.reduceToInt, Int64.reduceToInt] at t_15_15
                exact J32 lj fj  _ _ (hP.sub [0, 1] rfl) (hD.sub [0, 1] (by decide) rfl) hS ls (lv_sub hl [0, 1, 2] rfl)
              · exact absurd c_15_15 (by decide)
        refine lv_iload_n hx hb dX2_addNumber_8 rfl (lv_at hl 2 rfl) ?_
        refine lv_iload_n hx hb dX2_addNumber_9 rfl (lv_at hl 0 rfl) ?_
        refine lv_icmp_ge (tgt := 18) hx hb dX2_addNumber_10 (by decide) (fun c_10_16 => ?_) (fun c_10_16 => ?_)
        · have t_10_16 := c_10_16
          try simp only [kb_eq0, kb_ne0, lg_cmp_lt, lg_cmp_le, lg_cmp_gt, lg_cmp_ge, lg_cmp_eq] at t_10_16
          try simp only [Int32.lt_iff_toInt_lt, Int32.le_iff_toInt_le, ← Int32.toInt_inj, Int64.lt_iff_toInt_lt, Int64.le_iff_toInt_le, ← Int64.toInt_inj, Int32.toInt_toInt64, Int32.reduceToInt, Int64.reduceToInt] at t_10_16
          refine lv_aload_n hx hb dX2_addNumber_18 rfl (lv_at hl 1 rfl) ?_
          refine lv_bipush (v := 48) hx hb dX2_addNumber_19 (by decide) ?_
          refine lv_iload_n hx hb dX2_addNumber_21 rfl (lv_at hl 2 rfl) ?_
          refine lv_iload_n hx hb dX2_addNumber_22 rfl (lv_at hl 0 rfl) ?_
          refine lv_idiv hx hb dX2_addNumber_23 (by decide) ?_
          refine lv_bipush (v := 10) hx hb dX2_addNumber_24 (by decide) ?_
          refine lv_irem hx hb dX2_addNumber_26 (by decide) ?_
          refine lv_iadd hx hb dX2_addNumber_27 ?_
          refine lv_i2c hx hb dX2_addNumber_28 rfl ?_
          refine kCallVd (wr := []) (va_runV (As := [.int ((48 + ((n / 100) - (n / 100) / 10 * 10)).toUInt32 % 65536).toInt32]) (rest := []) ⟨hx, hb, hml, hown, hts⟩ (g_addByte l D cI cL cB cZ cT _ aW bW lj fj ((48 + ((n / 100) - (n / 100) / 10 * 10)).toUInt32 % 65536).toInt32) (cwV 1 hts gX2_addNumber_X2_addByte rfl rfl rfl (by decide +kernel) ⟨Nat.le_of_ble_eq_true rfl, Nat.le_of_ble_eq_true rfl⟩) (kPreV hG hP hD [0, 1] rfl (by decide) 0 2 rfl rfl rfl) rfl rfl hl.1 rfl (lv_room (Nat.le_of_ble_eq_true rfl)) dX2_addNumber_29 ⟨Nat.le_of_ble_eq_true rfl, Nat.le_of_ble_eq_true rfl⟩) hA hP hD hS [0, 1] [] rfl rfl (by decide) (by decide) (fun _ u_r_18 H locs wr_18 hP hD hS => ?_)
          have hP : va_P D vwCl [(aW, .inr (2, [.ref bW, .int u_r_18.1])), (bW, .inl (cB, 11, .inl u_r_18.2))] H := hP
          have hD : va_D A [(aW, .inr (2, [.ref bW, .int u_r_18.1])), (bW, .inl (cB, 11, .inl u_r_18.2))] := hD
          try dsimp only at wr_18
          exact J32 u_r_18.1 u_r_18.2  _ _ (hP.sub [0, 1] rfl) (hD.sub [0, 1] (by decide) rfl) hS ls (lv_sub hl [0, 1, 2] rfl)
        · have t_10_16 := c_10_16
          try simp only [kb_eq0, kb_ne0, lg_cmp_lt, lg_cmp_le, lg_cmp_gt, lg_cmp_ge, lg_cmp_eq] at t_10_16
          try simp only [Int32.lt_iff_toInt_lt, Int32.le_iff_toInt_le, ← Int32.toInt_inj, Int64.lt_iff_toInt_lt, Int64.le_iff_toInt_le, ← Int64.toInt_inj, Int32.toInt_toInt64, Int32.reduceToInt, Int64.reduceToInt] at t_10_16
          refine lv_iload_n hx hb dX2_addNumber_13 rfl (lv_at hl 0 rfl) ?_
          refine lv_iconst (v := 1) hx hb dX2_addNumber_14 (by decide) ?_
          refine lv_icmp_ne (tgt := 32) hx hb dX2_addNumber_15 (by decide) (fun c_15_18 => ?_) (fun c_15_18 => ?_)
          · have t_15_18 := c_15_18
            try simp only [kb_eq0, kb_ne0, lg_cmp_lt, lg_cmp_le, lg_cmp_gt, lg_cmp_ge, lg_cmp_eq] at t_15_18
            try simp only [Int32.lt_iff_toInt_lt, Int32.le_iff_toInt_le, ← Int32.toInt_inj, Int64.lt_iff_toInt_lt, Int64.le_iff_toInt_le, ← Int64.toInt_inj, Int32.toInt_toInt64, Int32.reduceToInt, Int64.reduceToInt] at t_15_18
            exact J32 lj fj  _ _ (hP.sub [0, 1] rfl) (hD.sub [0, 1] (by decide) rfl) hS ls (lv_sub hl [0, 1, 2] rfl)
          · exact absurd c_15_18 (by decide)
    refine lv_iload_n hx hb dX2_addNumber_8 rfl (lv_at hl 2 rfl) ?_
    refine lv_iload_n hx hb dX2_addNumber_9 rfl (lv_at hl 0 rfl) ?_
    refine lv_icmp_ge (tgt := 18) hx hb dX2_addNumber_10 (by decide) (fun c_10_19 => ?_) (fun c_10_19 => ?_)
    · have t_10_19 := c_10_19
      try simp only [kb_eq0, kb_ne0, lg_cmp_lt, lg_cmp_le, lg_cmp_gt, lg_cmp_ge, lg_cmp_eq] at t_10_19
      try simp only [Int32.lt_iff_toInt_lt, Int32.le_iff_toInt_le, ← Int32.toInt_inj, Int64.lt_iff_toInt_lt, Int64.le_iff_toInt_le, ← Int64.toInt_inj, Int32.toInt_toInt64, Int32.reduceToInt, Int64.reduceToInt] at t_10_19
      refine lv_aload_n hx hb dX2_addNumber_18 rfl (lv_at hl 1 rfl) ?_
      refine lv_bipush (v := 48) hx hb dX2_addNumber_19 (by decide) ?_
      refine lv_iload_n hx hb dX2_addNumber_21 rfl (lv_at hl 2 rfl) ?_
      refine lv_iload_n hx hb dX2_addNumber_22 rfl (lv_at hl 0 rfl) ?_
      refine lv_idiv hx hb dX2_addNumber_23 (by decide) ?_
      refine lv_bipush (v := 10) hx hb dX2_addNumber_24 (by decide) ?_
      refine lv_irem hx hb dX2_addNumber_26 (by decide) ?_
      refine lv_iadd hx hb dX2_addNumber_27 ?_
      refine lv_i2c hx hb dX2_addNumber_28 rfl ?_
      refine kCallVd (wr := []) (va_runV (As := [.int ((48 + ((n / 1000) - (n / 1000) / 10 * 10)).toUInt32 % 65536).toInt32]) (rest := []) ⟨hx, hb, hml, hown, hts⟩ (g_addByte l D cI cL cB cZ cT _ aW bW wl fw ((48 + ((n / 1000) - (n / 1000) / 10 * 10)).toUInt32 % 65536).toInt32) (cwV 1 hts gX2_addNumber_X2_addByte rfl rfl rfl (by decide +kernel) ⟨Nat.le_of_ble_eq_true rfl, Nat.le_of_ble_eq_true rfl⟩) (kPreV hG hP hD [0, 1] rfl (by decide) 0 2 rfl rfl rfl) rfl rfl hl.1 rfl (lv_room (Nat.le_of_ble_eq_true rfl)) dX2_addNumber_29 ⟨Nat.le_of_ble_eq_true rfl, Nat.le_of_ble_eq_true rfl⟩) hA hP hD hS [0, 1] [] rfl rfl (by decide) (by decide) (fun _ u_r_21 H locs wr_21 hP hD hS => ?_)
      have hP : va_P D vwCl [(aW, .inr (2, [.ref bW, .int u_r_21.1])), (bW, .inl (cB, 11, .inl u_r_21.2))] H := hP
      have hD : va_D A [(aW, .inr (2, [.ref bW, .int u_r_21.1])), (bW, .inl (cB, 11, .inl u_r_21.2))] := hD
      try dsimp only at wr_21
      exact J32 u_r_21.1 u_r_21.2  _ _ (hP.sub [0, 1] rfl) (hD.sub [0, 1] (by decide) rfl) hS ls (lv_sub hl [0, 1, 2] rfl)
    · have t_10_19 := c_10_19
      try simp only [kb_eq0, kb_ne0, lg_cmp_lt, lg_cmp_le, lg_cmp_gt, lg_cmp_ge, lg_cmp_eq] at t_10_19
      try simp only [Int32.lt_iff_toInt_lt, Int32.le_iff_toInt_le, ← Int32.toInt_inj, Int64.lt_iff_toInt_lt, Int64.le_iff_toInt_le, ← Int64.toInt_inj, Int32.toInt_toInt64, Int32.reduceToInt, Int64.reduceToInt] at t_10_19
      refine lv_iload_n hx hb dX2_addNumber_13 rfl (lv_at hl 0 rfl) ?_
      refine lv_iconst (v := 1) hx hb dX2_addNumber_14 (by decide) ?_
      refine lv_icmp_ne (tgt := 32) hx hb dX2_addNumber_15 (by decide) (fun c_15_21 => ?_) (fun c_15_21 => ?_)
      · have t_15_21 := c_15_21
        try simp only [kb_eq0, kb_ne0, lg_cmp_lt, lg_cmp_le, lg_cmp_gt, lg_cmp_ge, lg_cmp_eq] at t_15_21
        try simp only [Int32.lt_iff_toInt_lt, Int32.le_iff_toInt_le, ← Int32.toInt_inj, Int64.lt_iff_toInt_lt, Int64.le_iff_toInt_le, ← Int64.toInt_inj, Int32.toInt_toInt64, Int32.reduceToInt, Int64.reduceToInt] at t_15_21
        exact J32 wl fw  _ _ (hP.sub [0, 1] rfl) (hD.sub [0, 1] (by decide) rfl) hS ls (lv_sub hl [0, 1, 2] rfl)
      · exact absurd c_15_21 (by decide)
set_option maxRecDepth 100000 in
theorem iX2_writeAct_X2 : ∀ w ∈ wsX20, w ∈ wsX2_writeAct := fun w h => (goodIn_r (big := wsX2_writeAct) wsX20 [12, 13] rfl (by decide +kernel) w h).1
set_option maxRecDepth 100000 in
set_option maxHeartbeats 4000000 in
theorem g_writeAct (l : Launch) (D : va_G) (cI cL cB cZ cT : ClassId) (sz : Nat) (aW bW : Nat) (wl : Int32) (fw : Nat → Int32) (n b : Int32) : kM (S := (Int32 × (Nat → Int32))) l yX2_writeAct wsX2_writeAct ({ frames := 2, cells := 0, slots := 0, locals := 43 }) D (kT cI cL cB cZ cT) [.ref aW, .int n, .int b] [(aW, .inr (2, [.ref bW, .int wl])), (bW, .inl (cB, 11, .inl fw))] sz eV (fun _ _ => True) (fun u => [(aW, .inr (2, [.ref bW, .int u.1])), (bW, .inl (cB, 11, .inl u.2))]) 0 0 := by
  refine kStart (cc := cX2_writeAct) (maxL := 3) (ret := none) (own := RX2) (by decide) rfl rfl (Nat.le_of_ble_eq_true rfl) ?_
  intro p e s m args below meth c A ls hx hb hr hml hown hts hlocks hnm hsz hA hG hP hD hS hl
  have hK := hG.1
  have hl : lv_has ls 3 [(0, .ref aW), (1, .int n), (2, .int b)] := hl
  refine lv_aload_n hx hb dX2_writeAct_0 rfl (lv_at hl 0 rfl) ?_
  refine lv_iconst (v := 0) hx hb dX2_writeAct_1 (by decide) ?_
  refine va_put (D := D) (ci := 2) (v := .int 0) (ty := .int) (C := RX2) (T := TX2) (N := 2) hx hb hts iX2_writeAct_X2 tyX2 tyX2_ok nmX2 hown hK hP hD hS 0 rfl rfl 1 (by decide) (hts (.fieldLink RX2 15 "TapeCalculator$LineWriter" "length" "I") (List.mem_of_getElem? (i := 1) rfl)) (fun _ h9 => h9) rfl (by decide +kernel) rfl rfl (Nat.le_of_ble_eq_true rfl) dX2_writeAct_2 (fun H locs hP hD hS => ?_)
  have hP : va_P D vwCl [(aW, .inr (2, [.ref bW, .int 0])), (bW, .inl (cB, 11, .inl fw))] H := hP
  have hD : va_D A [(aW, .inr (2, [.ref bW, .int 0])), (bW, .inl (cB, 11, .inl fw))] := hD
  refine lv_aload_n hx hb dX2_writeAct_5 rfl (lv_at hl 0 rfl) ?_
  refine lv_iload_n hx hb dX2_writeAct_6 rfl (lv_at hl 1 rfl) ?_
  refine kCallVd (wr := []) (va_runV (As := [.int n]) (rest := []) ⟨hx, hb, hml, hown, hts⟩ (g_addNumber l D cI cL cB cZ cT _ aW bW 0 fw n) (cwV 1 hts gX2_writeAct_X2_addNumber rfl rfl rfl (by decide +kernel) ⟨Nat.le_of_ble_eq_true rfl, Nat.le_of_ble_eq_true rfl⟩) (kPreV hG hP hD [0, 1] rfl (by decide) 0 2 rfl rfl rfl) rfl rfl hl.1 rfl (lv_room (Nat.le_of_ble_eq_true rfl)) dX2_writeAct_7 ⟨Nat.le_of_ble_eq_true rfl, Nat.le_of_ble_eq_true rfl⟩) hA hP hD hS [0, 1] [] rfl rfl (by decide) (by decide) (fun _ u_r_1 H locs wr_1 hP hD hS => ?_)
  have hP : va_P D vwCl [(aW, .inr (2, [.ref bW, .int u_r_1.1])), (bW, .inl (cB, 11, .inl u_r_1.2))] H := hP
  have hD : va_D A [(aW, .inr (2, [.ref bW, .int u_r_1.1])), (bW, .inl (cB, 11, .inl u_r_1.2))] := hD
  try dsimp only at wr_1
  refine lv_aload_n hx hb dX2_writeAct_10 rfl (lv_at hl 0 rfl) ?_
  refine lv_bipush (v := 32) hx hb dX2_writeAct_11 (by decide) ?_
  refine kCallVd (wr := []) (va_runV (As := [.int 32]) (rest := []) ⟨hx, hb, hml, hown, hts⟩ (g_addByte l D cI cL cB cZ cT _ aW bW (u_r_1.1) (u_r_1.2) 32) (cwV 1 hts gX2_writeAct_X2_addByte rfl rfl rfl (by decide +kernel) ⟨Nat.le_of_ble_eq_true rfl, Nat.le_of_ble_eq_true rfl⟩) (kPreV hG hP hD [0, 1] rfl (by decide) 0 2 rfl rfl rfl) rfl rfl hl.1 rfl (lv_room (Nat.le_of_ble_eq_true rfl)) dX2_writeAct_13 ⟨Nat.le_of_ble_eq_true rfl, Nat.le_of_ble_eq_true rfl⟩) hA hP hD hS [0, 1] [] rfl rfl (by decide) (by decide) (fun _ u_r_2 H locs wr_2 hP hD hS => ?_)
  have hP : va_P D vwCl [(aW, .inr (2, [.ref bW, .int u_r_2.1])), (bW, .inl (cB, 11, .inl u_r_2.2))] H := hP
  have hD : va_D A [(aW, .inr (2, [.ref bW, .int u_r_2.1])), (bW, .inl (cB, 11, .inl u_r_2.2))] := hD
  try dsimp only at wr_2
  refine lv_aload_n hx hb dX2_writeAct_16 rfl (lv_at hl 0 rfl) ?_
  refine lv_iload_n hx hb dX2_writeAct_17 rfl (lv_at hl 2 rfl) ?_
  refine lv_bipush (v := 12) hx hb dX2_writeAct_18 (by decide) ?_
  refine lv_ishr hx hb dX2_writeAct_20 ?_
  refine lv_bipush (v := 31) hx hb dX2_writeAct_21 (by decide) ?_
  refine lv_iand hx hb dX2_writeAct_23 ?_
  refine kCallVd (wr := []) (va_runV (As := [.int ((b >>> (12 &&& 31)) &&& 31)]) (rest := []) ⟨hx, hb, hml, hown, hts⟩ (g_addNumber l D cI cL cB cZ cT _ aW bW (u_r_2.1) (u_r_2.2) ((b >>> (12 &&& 31)) &&& 31)) (cwV 1 hts gX2_writeAct_X2_addNumber rfl rfl rfl (by decide +kernel) ⟨Nat.le_of_ble_eq_true rfl, Nat.le_of_ble_eq_true rfl⟩) (kPreV hG hP hD [0, 1] rfl (by decide) 0 2 rfl rfl rfl) rfl rfl hl.1 rfl (lv_room (Nat.le_of_ble_eq_true rfl)) dX2_writeAct_24 ⟨Nat.le_of_ble_eq_true rfl, Nat.le_of_ble_eq_true rfl⟩) hA hP hD hS [0, 1] [] rfl rfl (by decide) (by decide) (fun _ u_r_3 H locs wr_3 hP hD hS => ?_)
  have hP : va_P D vwCl [(aW, .inr (2, [.ref bW, .int u_r_3.1])), (bW, .inl (cB, 11, .inl u_r_3.2))] H := hP
  have hD : va_D A [(aW, .inr (2, [.ref bW, .int u_r_3.1])), (bW, .inl (cB, 11, .inl u_r_3.2))] := hD
  try dsimp only at wr_3
  refine lv_aload_n hx hb dX2_writeAct_27 rfl (lv_at hl 0 rfl) ?_
  refine lv_iload_n hx hb dX2_writeAct_28 rfl (lv_at hl 2 rfl) ?_
  refine lv_bipush (v := 17) hx hb dX2_writeAct_29 (by decide) ?_
  refine lv_ishr hx hb dX2_writeAct_31 ?_
  refine lv_if_eq (tgt := 40) hx hb dX2_writeAct_32 (by decide) (fun c_32_3 => ?_) (fun c_32_3 => ?_)
  · have t_32_3 := c_32_3
    try simp only [kb_eq0, kb_ne0, lg_cmp_lt, lg_cmp_le, lg_cmp_gt, lg_cmp_ge, lg_cmp_eq] at t_32_3
    try simp only [Int32.lt_iff_toInt_lt, Int32.le_iff_toInt_le, ← Int32.toInt_inj, Int64.lt_iff_toInt_lt, Int64.le_iff_toInt_le, ← Int64.toInt_inj, Int32.toInt_toInt64, Int32.reduceToInt, Int64.reduceToInt] at t_32_3
    refine lv_bipush (v := 43) hx hb dX2_writeAct_40 (by decide) ?_
    refine kCallVd (wr := []) (va_runV (As := [.int 43]) (rest := []) ⟨hx, hb, hml, hown, hts⟩ (g_addByte l D cI cL cB cZ cT _ aW bW (u_r_3.1) (u_r_3.2) 43) (cwV 1 hts gX2_writeAct_X2_addByte rfl rfl rfl (by decide +kernel) ⟨Nat.le_of_ble_eq_true rfl, Nat.le_of_ble_eq_true rfl⟩) (kPreV hG hP hD [0, 1] rfl (by decide) 0 2 rfl rfl rfl) rfl rfl hl.1 rfl (lv_room (Nat.le_of_ble_eq_true rfl)) dX2_writeAct_42 ⟨Nat.le_of_ble_eq_true rfl, Nat.le_of_ble_eq_true rfl⟩) hA hP hD hS [0, 1] [] rfl rfl (by decide) (by decide) (fun _ u_r_5 H locs wr_5 hP hD hS => ?_)
    have hP : va_P D vwCl [(aW, .inr (2, [.ref bW, .int u_r_5.1])), (bW, .inl (cB, 11, .inl u_r_5.2))] H := hP
    have hD : va_D A [(aW, .inr (2, [.ref bW, .int u_r_5.1])), (bW, .inl (cB, 11, .inl u_r_5.2))] := hD
    try dsimp only at wr_5
    refine lv_aload_n hx hb dX2_writeAct_45 rfl (lv_at hl 0 rfl) ?_
    refine lv_iload_n hx hb dX2_writeAct_46 rfl (lv_at hl 2 rfl) ?_
    refine lv_sipush (v := 4095) hx hb dX2_writeAct_47 (by decide) ?_
    refine lv_iand hx hb dX2_writeAct_50 ?_
    refine kCallVd (wr := []) (va_runV (As := [.int (b &&& 4095)]) (rest := []) ⟨hx, hb, hml, hown, hts⟩ (g_addNumber l D cI cL cB cZ cT _ aW bW (u_r_5.1) (u_r_5.2) (b &&& 4095)) (cwV 1 hts gX2_writeAct_X2_addNumber rfl rfl rfl (by decide +kernel) ⟨Nat.le_of_ble_eq_true rfl, Nat.le_of_ble_eq_true rfl⟩) (kPreV hG hP hD [0, 1] rfl (by decide) 0 2 rfl rfl rfl) rfl rfl hl.1 rfl (lv_room (Nat.le_of_ble_eq_true rfl)) dX2_writeAct_51 ⟨Nat.le_of_ble_eq_true rfl, Nat.le_of_ble_eq_true rfl⟩) hA hP hD hS [0, 1] [] rfl rfl (by decide) (by decide) (fun _ u_r_6 H locs wr_6 hP hD hS => ?_)
    have hP : va_P D vwCl [(aW, .inr (2, [.ref bW, .int u_r_6.1])), (bW, .inl (cB, 11, .inl u_r_6.2))] H := hP
    have hD : va_D A [(aW, .inr (2, [.ref bW, .int u_r_6.1])), (bW, .inl (cB, 11, .inl u_r_6.2))] := hD
    try dsimp only at wr_6
    refine kVret (u := (u_r_6.1, u_r_6.2)) hx hb hr hlocks hS dX2_writeAct_54 ?_ (hP.sub [0, 1] rfl) (hD.sub [0, 1] (by decide) rfl)
    exact trivial
  · have t_32_3 := c_32_3
    try simp only [kb_eq0, kb_ne0, lg_cmp_lt, lg_cmp_le, lg_cmp_gt, lg_cmp_ge, lg_cmp_eq] at t_32_3
    try simp only [Int32.lt_iff_toInt_lt, Int32.le_iff_toInt_le, ← Int32.toInt_inj, Int64.lt_iff_toInt_lt, Int64.le_iff_toInt_le, ← Int64.toInt_inj, Int32.toInt_toInt64, Int32.reduceToInt, Int64.reduceToInt] at t_32_3
    refine lv_bipush (v := 45) hx hb dX2_writeAct_35 (by decide) ?_
    refine lv_goto (tgt := 42) hx hb dX2_writeAct_37 (by decide) ?_
    refine kCallVd (wr := []) (va_runV (As := [.int 45]) (rest := []) ⟨hx, hb, hml, hown, hts⟩ (g_addByte l D cI cL cB cZ cT _ aW bW (u_r_3.1) (u_r_3.2) 45) (cwV 1 hts gX2_writeAct_X2_addByte rfl rfl rfl (by decide +kernel) ⟨Nat.le_of_ble_eq_true rfl, Nat.le_of_ble_eq_true rfl⟩) (kPreV hG hP hD [0, 1] rfl (by decide) 0 2 rfl rfl rfl) rfl rfl hl.1 rfl (lv_room (Nat.le_of_ble_eq_true rfl)) dX2_writeAct_42 ⟨Nat.le_of_ble_eq_true rfl, Nat.le_of_ble_eq_true rfl⟩) hA hP hD hS [0, 1] [] rfl rfl (by decide) (by decide) (fun _ u_r_7 H locs wr_7 hP hD hS => ?_)
    have hP : va_P D vwCl [(aW, .inr (2, [.ref bW, .int u_r_7.1])), (bW, .inl (cB, 11, .inl u_r_7.2))] H := hP
    have hD : va_D A [(aW, .inr (2, [.ref bW, .int u_r_7.1])), (bW, .inl (cB, 11, .inl u_r_7.2))] := hD
    try dsimp only at wr_7
    refine lv_aload_n hx hb dX2_writeAct_45 rfl (lv_at hl 0 rfl) ?_
    refine lv_iload_n hx hb dX2_writeAct_46 rfl (lv_at hl 2 rfl) ?_
    refine lv_sipush (v := 4095) hx hb dX2_writeAct_47 (by decide) ?_
    refine lv_iand hx hb dX2_writeAct_50 ?_
    refine kCallVd (wr := []) (va_runV (As := [.int (b &&& 4095)]) (rest := []) ⟨hx, hb, hml, hown, hts⟩ (g_addNumber l D cI cL cB cZ cT _ aW bW (u_r_7.1) (u_r_7.2) (b &&& 4095)) (cwV 1 hts gX2_writeAct_X2_addNumber rfl rfl rfl (by decide +kernel) ⟨Nat.le_of_ble_eq_true rfl, Nat.le_of_ble_eq_true rfl⟩) (kPreV hG hP hD [0, 1] rfl (by decide) 0 2 rfl rfl rfl) rfl rfl hl.1 rfl (lv_room (Nat.le_of_ble_eq_true rfl)) dX2_writeAct_51 ⟨Nat.le_of_ble_eq_true rfl, Nat.le_of_ble_eq_true rfl⟩) hA hP hD hS [0, 1] [] rfl rfl (by decide) (by decide) (fun _ u_r_8 H locs wr_8 hP hD hS => ?_)
    have hP : va_P D vwCl [(aW, .inr (2, [.ref bW, .int u_r_8.1])), (bW, .inl (cB, 11, .inl u_r_8.2))] H := hP
    have hD : va_D A [(aW, .inr (2, [.ref bW, .int u_r_8.1])), (bW, .inl (cB, 11, .inl u_r_8.2))] := hD
    try dsimp only at wr_8
    refine kVret (u := (u_r_8.1, u_r_8.2)) hx hb hr hlocks hS dX2_writeAct_54 ?_ (hP.sub [0, 1] rfl) (hD.sub [0, 1] (by decide) rfl)
    exact trivial
set_option maxRecDepth 100000 in
theorem iX2_byteAt_X2 : ∀ w ∈ wsX20, w ∈ wsX2_byteAt := fun w h => (goodIn_r (big := wsX2_byteAt) wsX20 [3, 4] rfl (by decide +kernel) w h).1
set_option maxRecDepth 100000 in
set_option maxHeartbeats 4000000 in
theorem g_byteAt (l : Launch) (D : va_G) (cI cL cB cZ cT : ClassId) (sz : Nat) (aW bW : Nat) (wl : Int32) (fw : Nat → Int32) (i : Int32) : kM (S := Unit) l yX2_byteAt wsX2_byteAt ({ frames := 0, cells := 0, slots := 0, locals := 0 }) D (kT cI cL cB cZ cT) [.ref aW, .int i] [(aW, .inr (2, [.ref bW, .int wl])), (bW, .inl (cB, 11, .inl fw))] sz eI (fun _ _ => True) (fun _ => [(aW, .inr (2, [.ref bW, .int wl])), (bW, .inl (cB, 11, .inl fw))]) 0 0 := by
  refine kStart (cc := cX2_byteAt) (maxL := 2) (ret := (some .int)) (own := RX2) (by decide) rfl rfl (Nat.le_of_ble_eq_true rfl) ?_
  intro p e s m args below meth c A ls hx hb hr hml hown hts hlocks hnm hsz hA hG hP hD hS hl
  have hK := hG.1
  have hl : lv_has ls 2 [(0, .ref aW), (1, .int i)] := hl
  refine lv_iload_n hx hb dX2_byteAt_0 rfl (lv_at hl 1 rfl) ?_
  refine lv_if_lt (tgt := 30) hx hb dX2_byteAt_1 (by decide) (fun c_1_0 => ?_) (fun c_1_0 => ?_)
  · have t_1_0 := c_1_0
    try simp only [kb_eq0, kb_ne0, lg_cmp_lt, lg_cmp_le, lg_cmp_gt, lg_cmp_ge, lg_cmp_eq] at t_1_0
    try simp only [Int32.lt_iff_toInt_lt, Int32.le_iff_toInt_le, ← Int32.toInt_inj, Int64.lt_iff_toInt_lt, Int64.le_iff_toInt_le, ← Int64.toInt_inj, Int32.toInt_toInt64, Int32.reduceToInt, Int64.reduceToInt] at t_1_0
    refine lv_bipush (v := (-9)) hx hb dX2_byteAt_30 (by decide) ?_
    refine kIret (u := ()) hx hb hr rfl hlocks hS dX2_byteAt_32 ?_ (hP.sub [0, 1] rfl) (hD.sub [0, 1] (by decide) rfl)
    exact trivial
  · have t_1_0 := c_1_0
    try simp only [kb_eq0, kb_ne0, lg_cmp_lt, lg_cmp_le, lg_cmp_gt, lg_cmp_ge, lg_cmp_eq] at t_1_0
    try simp only [Int32.lt_iff_toInt_lt, Int32.le_iff_toInt_le, ← Int32.toInt_inj, Int64.lt_iff_toInt_lt, Int64.le_iff_toInt_le, ← Int64.toInt_inj, Int32.toInt_toInt64, Int32.reduceToInt, Int64.reduceToInt] at t_1_0
    refine lv_iload_n hx hb dX2_byteAt_4 rfl (lv_at hl 1 rfl) ?_
    refine lv_aload_n hx hb dX2_byteAt_5 rfl (lv_at hl 0 rfl) ?_
    refine va_get (D := D) (ci := 2) (v := .int wl) (C := RX2) (T := TX2) (N := 2) hx hb hts iX2_byteAt_X2 hown hK hP 0 rfl rfl 1 (by decide) (hts (.fieldLink RX2 15 "TapeCalculator$LineWriter" "length" "I") (List.mem_of_getElem? (i := 1) rfl)) (fun _ h9 => h9) rfl dX2_byteAt_6 ?_
    refine lv_icmp_ge (tgt := 30) hx hb dX2_byteAt_9 (by decide) (fun c_9_1 => ?_) (fun c_9_1 => ?_)
    · have t_9_1 := c_9_1
      try simp only [kb_eq0, kb_ne0, lg_cmp_lt, lg_cmp_le, lg_cmp_gt, lg_cmp_ge, lg_cmp_eq] at t_9_1
      try simp only [Int32.lt_iff_toInt_lt, Int32.le_iff_toInt_le, ← Int32.toInt_inj, Int64.lt_iff_toInt_lt, Int64.le_iff_toInt_le, ← Int64.toInt_inj, Int32.toInt_toInt64, Int32.reduceToInt, Int64.reduceToInt] at t_9_1
      refine lv_bipush (v := (-9)) hx hb dX2_byteAt_30 (by decide) ?_
      refine kIret (u := ()) hx hb hr rfl hlocks hS dX2_byteAt_32 ?_ (hP.sub [0, 1] rfl) (hD.sub [0, 1] (by decide) rfl)
      exact trivial
    · have t_9_1 := c_9_1
      try simp only [kb_eq0, kb_ne0, lg_cmp_lt, lg_cmp_le, lg_cmp_gt, lg_cmp_ge, lg_cmp_eq] at t_9_1
      try simp only [Int32.lt_iff_toInt_lt, Int32.le_iff_toInt_le, ← Int32.toInt_inj, Int64.lt_iff_toInt_lt, Int64.le_iff_toInt_le, ← Int64.toInt_inj, Int32.toInt_toInt64, Int32.reduceToInt, Int64.reduceToInt] at t_9_1
      refine lv_iload_n hx hb dX2_byteAt_12 rfl (lv_at hl 1 rfl) ?_
      refine lv_aload_n hx hb dX2_byteAt_13 rfl (lv_at hl 0 rfl) ?_
      refine va_get (D := D) (ci := 2) (v := .ref bW) (C := RX2) (T := TX2) (N := 2) hx hb hts iX2_byteAt_X2 hown hK hP 0 rfl rfl 0 (by decide) (hts (.fieldLink RX2 9 "TapeCalculator$LineWriter" "row" "[B") (List.mem_of_getElem? (i := 2) rfl)) (fun _ h9 => h9) rfl dX2_byteAt_14 ?_
      refine va_alen hx hb hK hP 1 2 rfl rfl (v := 11) rfl dX2_byteAt_17 ?_
      refine lv_icmp_ge (tgt := 30) hx hb dX2_byteAt_18 (by decide) (fun c_18_2 => ?_) (fun c_18_2 => ?_)
      · have t_18_2 := c_18_2
        try simp only [kb_eq0, kb_ne0, lg_cmp_lt, lg_cmp_le, lg_cmp_gt, lg_cmp_ge, lg_cmp_eq] at t_18_2
        try simp only [Int32.lt_iff_toInt_lt, Int32.le_iff_toInt_le, ← Int32.toInt_inj, Int64.lt_iff_toInt_lt, Int64.le_iff_toInt_le, ← Int64.toInt_inj, Int32.toInt_toInt64, Int32.reduceToInt, Int64.reduceToInt] at t_18_2
        refine lv_bipush (v := (-9)) hx hb dX2_byteAt_30 (by decide) ?_
        refine kIret (u := ()) hx hb hr rfl hlocks hS dX2_byteAt_32 ?_ (hP.sub [0, 1] rfl) (hD.sub [0, 1] (by decide) rfl)
        exact trivial
      · have t_18_2 := c_18_2
        try simp only [kb_eq0, kb_ne0, lg_cmp_lt, lg_cmp_le, lg_cmp_gt, lg_cmp_ge, lg_cmp_eq] at t_18_2
        try simp only [Int32.lt_iff_toInt_lt, Int32.le_iff_toInt_le, ← Int32.toInt_inj, Int64.lt_iff_toInt_lt, Int64.le_iff_toInt_le, ← Int64.toInt_inj, Int32.toInt_toInt64, Int32.reduceToInt, Int64.reduceToInt] at t_18_2
        refine lv_aload_n hx hb dX2_byteAt_21 rfl (lv_at hl 0 rfl) ?_
        refine va_get (D := D) (ci := 2) (v := .ref bW) (C := RX2) (T := TX2) (N := 2) hx hb hts iX2_byteAt_X2 hown hK hP 0 rfl rfl 0 (by decide) (hts (.fieldLink RX2 9 "TapeCalculator$LineWriter" "row" "[B") (List.mem_of_getElem? (i := 2) rfl)) (fun _ h9 => h9) rfl dX2_byteAt_22 ?_
        refine lv_iload_n hx hb dX2_byteAt_25 rfl (lv_at hl 1 rfl) ?_
        refine va_bald hx hb hK hP 1 2 rfl rfl (vp_in_iff.mpr (by omega)) dX2_byteAt_26 ?_
        refine lv_goto (tgt := 32) hx hb dX2_byteAt_27 (by decide) ?_
        refine kIret (u := ()) hx hb hr rfl hlocks hS dX2_byteAt_32 ?_ (hP.sub [0, 1] rfl) (hD.sub [0, 1] (by decide) rfl)
        exact trivial
set_option maxRecDepth 100000 in
theorem iX7_written_X7 : ∀ w ∈ wsX70, w ∈ wsX7_written := fun w h => (goodIn_r (big := wsX7_written) wsX70 [32, 33, 34, 35, 36, 37, 38, 39, 40, 41, 42] rfl (by decide +kernel) w h).1
set_option maxRecDepth 100000 in
set_option maxHeartbeats 4000000 in
theorem g_written (l : Launch) (D : va_G) (cI cL cB cZ cT : ClassId) (sz : Nat) (h0 aS aA aU aX aW : Nat) (pl np li sw lst : Int32) (ad : Int64) (bS : Nat) (f : Nat → Int32) (bW : Nat) (wl : Int32) (fw : Nat → Int32) (n i : Int32) : kM (S := (Int32 × (Nat → Int32))) l yX7_written wsX7_written ({ frames := 3, cells := 0, slots := 0, locals := 65 }) D (kT cI cL cB cZ cT) [.ref h0, .int n, .int i] [(h0, .inr (7, [.ref aS, .ref aA, .ref aU, .ref aX, .ref aW, .int pl, .int np, .int li, .int sw, .int lst, .long ad])), (aS, .inr (3, [.ref bS])), (bS, .inl (cI, 512, .inl f)), (aW, .inr (2, [.ref bW, .int wl])), (bW, .inl (cB, 11, .inl fw))] sz eI (fun _ _ => True) (fun u => [(h0, .inr (7, [.ref aS, .ref aA, .ref aU, .ref aX, .ref aW, .int pl, .int np, .int li, .int sw, .int lst, .long ad])), (aS, .inr (3, [.ref bS])), (bS, .inl (cI, 512, .inl f)), (aW, .inr (2, [.ref bW, .int u.1])), (bW, .inl (cB, 11, .inl u.2))]) 0 0 := by
  refine kStart (cc := cX7_written) (maxL := 3) (ret := (some .int)) (own := RX7) (by decide) rfl rfl (Nat.le_of_ble_eq_true rfl) ?_
  intro p e s m args below meth c A ls hx hb hr hml hown hts hlocks hnm hsz hA hG hP hD hS hl
  have hK := hG.1
  have hl : lv_has ls 3 [(0, .ref h0), (1, .int n), (2, .int i)] := hl
  refine lv_iload_n hx hb dX7_written_0 rfl (lv_at hl 1 rfl) ?_
  refine kCallI (wr := [(h0, .inr (7, [.ref aS, .ref aA, .ref aU, .ref aX, .ref aW, .int pl, .int np, .int li, .int sw, .int lst, .long ad])), (aS, .inr (3, [.ref bS])), (bS, .inl (cI, 512, .inl f)), (aW, .inr (2, [.ref bW, .int wl])), (bW, .inl (cB, 11, .inl fw))]) (va_runS (As := [.int n]) (rest := []) ⟨hx, hb, hml, hown, hts⟩ (g_isHalf l D cI cL cB cZ cT _ n) (va_cwS 1 hts gX7_written_X7_isHalf rfl rfl rfl (by decide +kernel) ⟨Nat.le_of_ble_eq_true rfl, Nat.le_of_ble_eq_true rfl⟩) (kPreS hG hP hD [] rfl (by decide)) rfl rfl hl.1 rfl (lv_room (Nat.le_of_ble_eq_true rfl)) dX7_written_1 ⟨Nat.le_of_ble_eq_true rfl, Nat.le_of_ble_eq_true rfl⟩) hA hP hD hS [] [0, 1, 2, 3, 4] rfl rfl (by decide) (by decide) (fun r_1 u_r_1 H locs wr_1 hP hD hS => ?_)
  have hP : va_P D vwCl [(h0, .inr (7, [.ref aS, .ref aA, .ref aU, .ref aX, .ref aW, .int pl, .int np, .int li, .int sw, .int lst, .long ad])), (aS, .inr (3, [.ref bS])), (bS, .inl (cI, 512, .inl f)), (aW, .inr (2, [.ref bW, .int wl])), (bW, .inl (cB, 11, .inl fw))] H := hP
  have hD : va_D A [(h0, .inr (7, [.ref aS, .ref aA, .ref aU, .ref aX, .ref aW, .int pl, .int np, .int li, .int sw, .int lst, .long ad])), (aS, .inr (3, [.ref bS])), (bS, .inl (cI, 512, .inl f)), (aW, .inr (2, [.ref bW, .int wl])), (bW, .inl (cB, 11, .inl fw))] := hD
  try dsimp only at wr_1
  subst wr_1
  refine lv_if_eq (tgt := 11) hx hb dX7_written_4 (by decide) (fun c_4_1 => ?_) (fun c_4_1 => ?_)
  · have t_4_1 := c_4_1
    try simp only [kb_eq0, kb_ne0, lg_cmp_lt, lg_cmp_le, lg_cmp_gt, lg_cmp_ge, lg_cmp_eq] at t_4_1
    try simp only [Int32.lt_iff_toInt_lt, Int32.le_iff_toInt_le, ← Int32.toInt_inj, Int64.lt_iff_toInt_lt, Int64.le_iff_toInt_le, ← Int64.toInt_inj, Int32.toInt_toInt64, Int32.reduceToInt, Int64.reduceToInt] at t_4_1
    refine lv_iconst (v := (-1)) hx hb dX7_written_11 (by decide) ?_
    refine kIret (u := (wl, fw)) hx hb hr rfl hlocks hS dX7_written_12 ?_ (hP.sub [0, 1, 2, 3, 4] rfl) (hD.sub [0, 1, 2, 3, 4] (by decide) rfl)
    exact trivial
  · have t_4_1 := c_4_1
    try simp only [kb_eq0, kb_ne0, lg_cmp_lt, lg_cmp_le, lg_cmp_gt, lg_cmp_ge, lg_cmp_eq] at t_4_1
    try simp only [Int32.lt_iff_toInt_lt, Int32.le_iff_toInt_le, ← Int32.toInt_inj, Int64.lt_iff_toInt_lt, Int64.le_iff_toInt_le, ← Int64.toInt_inj, Int32.toInt_toInt64, Int32.reduceToInt, Int64.reduceToInt] at t_4_1
    refine lv_iload_n hx hb dX7_written_7 rfl (lv_at hl 2 rfl) ?_
    refine lv_if_ge (tgt := 13) hx hb dX7_written_8 (by decide) (fun c_8_2 => ?_) (fun c_8_2 => ?_)
    · have t_8_2 := c_8_2
      try simp only [kb_eq0, kb_ne0, lg_cmp_lt, lg_cmp_le, lg_cmp_gt, lg_cmp_ge, lg_cmp_eq] at t_8_2
      try simp only [Int32.lt_iff_toInt_lt, Int32.le_iff_toInt_le, ← Int32.toInt_inj, Int64.lt_iff_toInt_lt, Int64.le_iff_toInt_le, ← Int64.toInt_inj, Int32.toInt_toInt64, Int32.reduceToInt, Int64.reduceToInt] at t_8_2
      refine lv_aload_n hx hb dX7_written_13 rfl (lv_at hl 0 rfl) ?_
      refine va_get (D := D) (ci := 7) (v := .ref aW) (C := RX7) (T := TX7) (N := 11) hx hb hts iX7_written_X7 hown hK hP 0 rfl rfl 4 (by decide) (hts (.fieldLink RX7 40 "TapeCalculator" "writer" "LTapeCalculator$LineWriter;") (List.mem_of_getElem? (i := 1) rfl)) (fun _ h9 => h9) rfl dX7_written_14 ?_
      refine lv_iload_n hx hb dX7_written_17 rfl (lv_at hl 1 rfl) ?_
      refine lv_aload_n hx hb dX7_written_18 rfl (lv_at hl 0 rfl) ?_
      refine va_get (D := D) (ci := 7) (v := .ref aS) (C := RX7) (T := TX7) (N := 11) hx hb hts iX7_written_X7 hown hK hP 0 rfl rfl 0 (by decide) (hts (.fieldLink RX7 12 "TapeCalculator" "store" "LTapeCalculator$Store;") (List.mem_of_getElem? (i := 2) rfl)) (fun _ h9 => h9) rfl dX7_written_19 ?_
      refine lv_iload_n hx hb dX7_written_22 rfl (lv_at hl 1 rfl) ?_
      refine kCallI (wr := [(h0, .inr (7, [.ref aS, .ref aA, .ref aU, .ref aX, .ref aW, .int pl, .int np, .int li, .int sw, .int lst, .long ad])), (aW, .inr (2, [.ref bW, .int wl])), (bW, .inl (cB, 11, .inl fw))]) (va_runV (As := [.int n]) (rest := [.int n, .ref aW]) ⟨hx, hb, hml, hown, hts⟩ (g_halfAt l D cI cL cB cZ cT _ aS bS f n) (cwV 1 hts gX7_written_X3_halfAt rfl rfl rfl (by decide +kernel) ⟨Nat.le_of_ble_eq_true rfl, Nat.le_of_ble_eq_true rfl⟩) (kPreV hG hP hD [1, 2] rfl (by decide) 0 3 rfl rfl rfl) rfl rfl hl.1 rfl (lv_room (Nat.le_of_ble_eq_true rfl)) dX7_written_23 ⟨Nat.le_of_ble_eq_true rfl, Nat.le_of_ble_eq_true rfl⟩) hA hP hD hS [1, 2] [0, 3, 4] rfl rfl (by decide) (by decide) (fun r_4 u_r_4 H locs wr_4 hP hD hS => ?_)
      have hP : va_P D vwCl [(h0, .inr (7, [.ref aS, .ref aA, .ref aU, .ref aX, .ref aW, .int pl, .int np, .int li, .int sw, .int lst, .long ad])), (aW, .inr (2, [.ref bW, .int wl])), (bW, .inl (cB, 11, .inl fw)), (aS, .inr (3, [.ref bS])), (bS, .inl (cI, 512, .inl f))] H := hP
      have hD : va_D A [(h0, .inr (7, [.ref aS, .ref aA, .ref aU, .ref aX, .ref aW, .int pl, .int np, .int li, .int sw, .int lst, .long ad])), (aW, .inr (2, [.ref bW, .int wl])), (bW, .inl (cB, 11, .inl fw)), (aS, .inr (3, [.ref bS])), (bS, .inl (cI, 512, .inl f))] := hD
      try dsimp only at wr_4
      refine kCallVd (wr := [(h0, .inr (7, [.ref aS, .ref aA, .ref aU, .ref aX, .ref aW, .int pl, .int np, .int li, .int sw, .int lst, .long ad])), (aS, .inr (3, [.ref bS])), (bS, .inl (cI, 512, .inl f))]) (va_runV (As := [.int n, .int r_4]) (rest := []) ⟨hx, hb, hml, hown, hts⟩ (g_writeAct l D cI cL cB cZ cT _ aW bW wl fw n r_4) (cwV 2 hts gX7_written_X2_writeAct rfl rfl rfl (by decide +kernel) ⟨Nat.le_of_ble_eq_true rfl, Nat.le_of_ble_eq_true rfl⟩) (kPreV hG hP hD [1, 2] rfl (by decide) 0 2 rfl rfl rfl) rfl rfl hl.1 rfl (lv_room (Nat.le_of_ble_eq_true rfl)) dX7_written_26 ⟨Nat.le_of_ble_eq_true rfl, Nat.le_of_ble_eq_true rfl⟩) hA hP hD hS [1, 2] [0, 3, 4] rfl rfl (by decide) (by decide) (fun _ u_r_5 H locs wr_5 hP hD hS => ?_)
      have hP : va_P D vwCl [(h0, .inr (7, [.ref aS, .ref aA, .ref aU, .ref aX, .ref aW, .int pl, .int np, .int li, .int sw, .int lst, .long ad])), (aS, .inr (3, [.ref bS])), (bS, .inl (cI, 512, .inl f)), (aW, .inr (2, [.ref bW, .int u_r_5.1])), (bW, .inl (cB, 11, .inl u_r_5.2))] H := hP
      have hD : va_D A [(h0, .inr (7, [.ref aS, .ref aA, .ref aU, .ref aX, .ref aW, .int pl, .int np, .int li, .int sw, .int lst, .long ad])), (aS, .inr (3, [.ref bS])), (bS, .inl (cI, 512, .inl f)), (aW, .inr (2, [.ref bW, .int u_r_5.1])), (bW, .inl (cB, 11, .inl u_r_5.2))] := hD
      try dsimp only at wr_5
      refine lv_aload_n hx hb dX7_written_29 rfl (lv_at hl 0 rfl) ?_
      refine va_get (D := D) (ci := 7) (v := .ref aW) (C := RX7) (T := TX7) (N := 11) hx hb hts iX7_written_X7 hown hK hP 0 rfl rfl 4 (by decide) (hts (.fieldLink RX7 40 "TapeCalculator" "writer" "LTapeCalculator$LineWriter;") (List.mem_of_getElem? (i := 1) rfl)) (fun _ h9 => h9) rfl dX7_written_30 ?_
      refine lv_iload_n hx hb dX7_written_33 rfl (lv_at hl 2 rfl) ?_
      refine kCallI (wr := [(h0, .inr (7, [.ref aS, .ref aA, .ref aU, .ref aX, .ref aW, .int pl, .int np, .int li, .int sw, .int lst, .long ad])), (aS, .inr (3, [.ref bS])), (bS, .inl (cI, 512, .inl f))]) (va_runV (As := [.int i]) (rest := []) ⟨hx, hb, hml, hown, hts⟩ (g_byteAt l D cI cL cB cZ cT _ aW bW (u_r_5.1) (u_r_5.2) i) (cwV 1 hts gX7_written_X2_byteAt rfl rfl rfl (by decide +kernel) ⟨Nat.le_of_ble_eq_true rfl, Nat.le_of_ble_eq_true rfl⟩) (kPreV hG hP hD [3, 4] rfl (by decide) 0 2 rfl rfl rfl) rfl rfl hl.1 rfl (lv_room (Nat.le_of_ble_eq_true rfl)) dX7_written_34 ⟨Nat.le_of_ble_eq_true rfl, Nat.le_of_ble_eq_true rfl⟩) hA hP hD hS [3, 4] [0, 1, 2] rfl rfl (by decide) (by decide) (fun r_6 u_r_6 H locs wr_6 hP hD hS => ?_)
      have hP : va_P D vwCl [(h0, .inr (7, [.ref aS, .ref aA, .ref aU, .ref aX, .ref aW, .int pl, .int np, .int li, .int sw, .int lst, .long ad])), (aS, .inr (3, [.ref bS])), (bS, .inl (cI, 512, .inl f)), (aW, .inr (2, [.ref bW, .int u_r_5.1])), (bW, .inl (cB, 11, .inl (u_r_5.2)))] H := hP
      have hD : va_D A [(h0, .inr (7, [.ref aS, .ref aA, .ref aU, .ref aX, .ref aW, .int pl, .int np, .int li, .int sw, .int lst, .long ad])), (aS, .inr (3, [.ref bS])), (bS, .inl (cI, 512, .inl f)), (aW, .inr (2, [.ref bW, .int u_r_5.1])), (bW, .inl (cB, 11, .inl (u_r_5.2)))] := hD
      try dsimp only at wr_6
      refine kIret (u := (u_r_5.1, (u_r_5.2))) hx hb hr rfl hlocks hS dX7_written_37 ?_ (hP.sub [0, 1, 2, 3, 4] rfl) (hD.sub [0, 1, 2, 3, 4] (by decide) rfl)
      exact trivial
    · have t_8_2 := c_8_2
      try simp only [kb_eq0, kb_ne0, lg_cmp_lt, lg_cmp_le, lg_cmp_gt, lg_cmp_ge, lg_cmp_eq] at t_8_2
      try simp only [Int32.lt_iff_toInt_lt, Int32.le_iff_toInt_le, ← Int32.toInt_inj, Int64.lt_iff_toInt_lt, Int64.le_iff_toInt_le, ← Int64.toInt_inj, Int32.toInt_toInt64, Int32.reduceToInt, Int64.reduceToInt] at t_8_2
      refine lv_iconst (v := (-1)) hx hb dX7_written_11 (by decide) ?_
      refine kIret (u := (wl, fw)) hx hb hr rfl hlocks hS dX7_written_12 ?_ (hP.sub [0, 1, 2, 3, 4] rfl) (hD.sub [0, 1, 2, 3, 4] (by decide) rfl)
      exact trivial
set_option maxRecDepth 100000 in
theorem iX7_digest_X7 : ∀ w ∈ wsX70, w ∈ wsX7_digest := fun w h => (goodIn_r (big := wsX7_digest) wsX70 [57, 58, 59, 60, 61, 62, 63, 64, 65, 66, 67] rfl (by decide +kernel) w h).1
set_option maxRecDepth 100000 in
theorem iX7_digest_X6 : ∀ w ∈ wsX60, w ∈ wsX7_digest := fun w h => (goodIn_r (big := wsX7_digest) wsX60 [68, 69, 70, 71] rfl (by decide +kernel) w h).1
set_option maxRecDepth 100000 in
set_option maxHeartbeats 4000000 in
theorem g_digest (l : Launch) (D : va_G) (cI cL cB cZ cT : ClassId) (sz : Nat) (h0 aS aA aU aX aW : Nat) (pl np li sw lst : Int32) (ad : Int64) (bS : Nat) (f : Nat → Int32) (sA : Int32) (zA : Int64) (sM : Int32) (zM : Int64) (vO : Int32) (bT aD : Nat) (ch ww : Int32) (t0 t1 t2 t3 : Nat) (i0 i1 i2 i3 : Nat) (n0 n1 n2 n3 p0 p1 p2 p3 : Int32) (f0 f1 f2 f3 : Nat → Int64) (bD : Nat) (dp : Int32) (fd : Nat → Int64) : kM (S := Unit) l yX7_digest wsX7_digest ({ frames := 2, cells := 0, slots := 0, locals := 46 }) D (kT cI cL cB cZ cT) [.ref h0] [(h0, .inr (7, [.ref aS, .ref aA, .ref aU, .ref aX, .ref aW, .int pl, .int np, .int li, .int sw, .int lst, .long ad])), (aS, .inr (3, [.ref bS])), (bS, .inl (cI, 512, .inl f)), (aA, .inr (0, [.int sA, .long zA, .int sM, .long zM, .int vO])), (aU, .inr (6, [.ref bT, .ref aD, .int ch, .int ww])), (bT, .inl (cT, 4, .inr (.inr (.inr (.inr (k4 t0 t1 t2 t3)))))), (t0, .inr (4, [.ref i0, .int n0, .int p0])), (i0, .inl (cL, 300, .inr (.inl f0))), (t1, .inr (4, [.ref i1, .int n1, .int p1])), (i1, .inl (cL, 300, .inr (.inl f1))), (t2, .inr (4, [.ref i2, .int n2, .int p2])), (i2, .inl (cL, 300, .inr (.inl f2))), (t3, .inr (4, [.ref i3, .int n3, .int p3])), (i3, .inl (cL, 300, .inr (.inl f3))), (aD, .inr (1, [.ref bD, .int dp])), (bD, .inl (cL, 256, .inr (.inl fd)))] sz eL (fun _ _ => True) (fun _ => [(h0, .inr (7, [.ref aS, .ref aA, .ref aU, .ref aX, .ref aW, .int pl, .int np, .int li, .int sw, .int lst, .long ad])), (aS, .inr (3, [.ref bS])), (bS, .inl (cI, 512, .inl f)), (aA, .inr (0, [.int sA, .long zA, .int sM, .long zM, .int vO])), (aU, .inr (6, [.ref bT, .ref aD, .int ch, .int ww])), (bT, .inl (cT, 4, .inr (.inr (.inr (.inr (k4 t0 t1 t2 t3)))))), (t0, .inr (4, [.ref i0, .int n0, .int p0])), (i0, .inl (cL, 300, .inr (.inl f0))), (t1, .inr (4, [.ref i1, .int n1, .int p1])), (i1, .inl (cL, 300, .inr (.inl f1))), (t2, .inr (4, [.ref i2, .int n2, .int p2])), (i2, .inl (cL, 300, .inr (.inl f2))), (t3, .inr (4, [.ref i3, .int n3, .int p3])), (i3, .inl (cL, 300, .inr (.inl f3))), (aD, .inr (1, [.ref bD, .int dp])), (bD, .inl (cL, 256, .inr (.inl fd)))]) 0 0 := by
  refine kStart (cc := cX7_digest) (maxL := 5) (ret := (some .long)) (own := RX7) (by decide) rfl rfl (Nat.le_of_ble_eq_true rfl) ?_
  intro p e s m args below meth c A ls hx hb hr hml hown hts hlocks hnm hsz hA hG hP hD hS hl
  have hK := hG.1
  have hl : lv_has ls 5 [(0, .ref h0)] := hl
  refine lv_ldc2 (v := 17) hx hb hown (hts (.constantLong RX7 167 (17)) (List.mem_of_getElem? (i := 1) rfl)) dX7_digest_0 ?_
  refine lv_lstore_n (lv' := [(1, .long 17), (0, .ref h0)]) hx hb dX7_digest_3 rfl hl (by decide) rfl (fun ls hl => ?_)
  refine lv_iconst (v := 0) hx hb dX7_digest_4 (by decide) ?_
  refine lv_istore_n (lv' := [(3, .int 0), (1, .long 17), (0, .ref h0)]) hx hb dX7_digest_5 rfl hl (by decide) rfl (fun ls hl => ?_)
  have J6 : ∀ (k : Nat) (j : Int32) (h : Int64), (512 - j.toInt).toNat < k → ∀ (H : Heap) (locs : List Loc), va_P D vwCl [(h0, .inr (7, [.ref aS, .ref aA, .ref aU, .ref aX, .ref aW, .int pl, .int np, .int li, .int sw, .int lst, .long ad])), (aS, .inr (3, [.ref bS])), (bS, .inl (cI, 512, .inl f)), (aA, .inr (0, [.int sA, .long zA, .int sM, .long zM, .int vO])), (aU, .inr (6, [.ref bT, .ref aD, .int ch, .int ww])), (bT, .inl (cT, 4, .inr (.inr (.inr (.inr (k4 t0 t1 t2 t3)))))), (t0, .inr (4, [.ref i0, .int n0, .int p0])), (i0, .inl (cL, 300, .inr (.inl f0))), (t1, .inr (4, [.ref i1, .int n1, .int p1])), (i1, .inl (cL, 300, .inr (.inl f1))), (t2, .inr (4, [.ref i2, .int n2, .int p2])), (i2, .inl (cL, 300, .inr (.inl f2))), (t3, .inr (4, [.ref i3, .int n3, .int p3])), (i3, .inl (cL, 300, .inr (.inl f3))), (aD, .inr (1, [.ref bD, .int dp])), (bD, .inl (cL, 256, .inr (.inl fd)))] H → va_D A [(h0, .inr (7, [.ref aS, .ref aA, .ref aU, .ref aX, .ref aW, .int pl, .int np, .int li, .int sw, .int lst, .long ad])), (aS, .inr (3, [.ref bS])), (bS, .inl (cI, 512, .inl f)), (aA, .inr (0, [.int sA, .long zA, .int sM, .long zM, .int vO])), (aU, .inr (6, [.ref bT, .ref aD, .int ch, .int ww])), (bT, .inl (cT, 4, .inr (.inr (.inr (.inr (k4 t0 t1 t2 t3)))))), (t0, .inr (4, [.ref i0, .int n0, .int p0])), (i0, .inl (cL, 300, .inr (.inl f0))), (t1, .inr (4, [.ref i1, .int n1, .int p1])), (i1, .inl (cL, 300, .inr (.inl f1))), (t2, .inr (4, [.ref i2, .int n2, .int p2])), (i2, .inl (cL, 300, .inr (.inl f2))), (t3, .inr (4, [.ref i3, .int n3, .int p3])), (i3, .inl (cL, 300, .inr (.inl f3))), (aD, .inr (1, [.ref bD, .int dp])), (bD, .inl (cL, 256, .inr (.inl fd)))] → va_S A s.heap H locs → ∀ ls : Array Slot, lv_has ls 5 [(3, .int j), (1, .long h), (0, .ref h0)] → W p l e ({ frames := 2, cells := 0, slots := 0, locals := 46 }) s m args below meth c H locs 0 0 (MQ below (kQ (S := Unit) eL (fun _ _ => True) D (fun _ => [(h0, .inr (7, [.ref aS, .ref aA, .ref aU, .ref aX, .ref aW, .int pl, .int np, .int li, .int sw, .int lst, .long ad])), (aS, .inr (3, [.ref bS])), (bS, .inl (cI, 512, .inl f)), (aA, .inr (0, [.int sA, .long zA, .int sM, .long zM, .int vO])), (aU, .inr (6, [.ref bT, .ref aD, .int ch, .int ww])), (bT, .inl (cT, 4, .inr (.inr (.inr (.inr (k4 t0 t1 t2 t3)))))), (t0, .inr (4, [.ref i0, .int n0, .int p0])), (i0, .inl (cL, 300, .inr (.inl f0))), (t1, .inr (4, [.ref i1, .int n1, .int p1])), (i1, .inl (cL, 300, .inr (.inl f1))), (t2, .inr (4, [.ref i2, .int n2, .int p2])), (i2, .inl (cL, 300, .inr (.inl f2))), (t3, .inr (4, [.ref i3, .int n3, .int p3])), (i3, .inl (cL, 300, .inr (.inl f3))), (aD, .inr (1, [.ref bD, .int dp])), (bD, .inl (cL, 256, .inr (.inl fd)))]) A) args s 0 0 A) (F0 m 6 ls []) := by
    intro k
    induction k with
    | zero =>
      intro j h hm
      exact absurd hm (Nat.not_lt_zero _)
    | succ k ih =>
      intro j h hm  H locs hP hD hS ls hl
      refine lv_iload_n hx hb dX7_digest_6 rfl (lv_at hl 0 rfl) ?_
      refine lv_sipush (v := 512) hx hb dX7_digest_7 (by decide) ?_
      refine lv_icmp_ge (tgt := 35) hx hb dX7_digest_10 (by decide) (fun c_10_0 => ?_) (fun c_10_0 => ?_)
      · have t_10_0 := c_10_0
        try simp only [kb_eq0, kb_ne0, lg_cmp_lt, lg_cmp_le, lg_cmp_gt, lg_cmp_ge, lg_cmp_eq] at t_10_0
        try simp only [Int32.lt_iff_toInt_lt, Int32.le_iff_toInt_le, ← Int32.toInt_inj, Int64.lt_iff_toInt_lt, Int64.le_iff_toInt_le, ← Int64.toInt_inj, Int32.toInt_toInt64, Int32.reduceToInt, Int64.reduceToInt] at t_10_0
        refine lv_iconst (v := 0) hx hb dX7_digest_35 (by decide) ?_
        refine lv_istore_n (lv' := [(3, .int 0), (1, .long h), (0, .ref h0)]) hx hb dX7_digest_36 rfl hl (by decide) rfl (fun ls hl => ?_)
        have J37 : ∀ (k : Nat) (j : Int32) (h : Int64), (10 - j.toInt).toNat < k → ∀ (H : Heap) (locs : List Loc), va_P D vwCl [(h0, .inr (7, [.ref aS, .ref aA, .ref aU, .ref aX, .ref aW, .int pl, .int np, .int li, .int sw, .int lst, .long ad])), (aS, .inr (3, [.ref bS])), (bS, .inl (cI, 512, .inl f)), (aA, .inr (0, [.int sA, .long zA, .int sM, .long zM, .int vO])), (aU, .inr (6, [.ref bT, .ref aD, .int ch, .int ww])), (bT, .inl (cT, 4, .inr (.inr (.inr (.inr (k4 t0 t1 t2 t3)))))), (t0, .inr (4, [.ref i0, .int n0, .int p0])), (i0, .inl (cL, 300, .inr (.inl f0))), (t1, .inr (4, [.ref i1, .int n1, .int p1])), (i1, .inl (cL, 300, .inr (.inl f1))), (t2, .inr (4, [.ref i2, .int n2, .int p2])), (i2, .inl (cL, 300, .inr (.inl f2))), (t3, .inr (4, [.ref i3, .int n3, .int p3])), (i3, .inl (cL, 300, .inr (.inl f3))), (aD, .inr (1, [.ref bD, .int dp])), (bD, .inl (cL, 256, .inr (.inl fd)))] H → va_D A [(h0, .inr (7, [.ref aS, .ref aA, .ref aU, .ref aX, .ref aW, .int pl, .int np, .int li, .int sw, .int lst, .long ad])), (aS, .inr (3, [.ref bS])), (bS, .inl (cI, 512, .inl f)), (aA, .inr (0, [.int sA, .long zA, .int sM, .long zM, .int vO])), (aU, .inr (6, [.ref bT, .ref aD, .int ch, .int ww])), (bT, .inl (cT, 4, .inr (.inr (.inr (.inr (k4 t0 t1 t2 t3)))))), (t0, .inr (4, [.ref i0, .int n0, .int p0])), (i0, .inl (cL, 300, .inr (.inl f0))), (t1, .inr (4, [.ref i1, .int n1, .int p1])), (i1, .inl (cL, 300, .inr (.inl f1))), (t2, .inr (4, [.ref i2, .int n2, .int p2])), (i2, .inl (cL, 300, .inr (.inl f2))), (t3, .inr (4, [.ref i3, .int n3, .int p3])), (i3, .inl (cL, 300, .inr (.inl f3))), (aD, .inr (1, [.ref bD, .int dp])), (bD, .inl (cL, 256, .inr (.inl fd)))] → va_S A s.heap H locs → ∀ ls : Array Slot, lv_has ls 5 [(3, .int j), (1, .long h), (0, .ref h0)] → W p l e ({ frames := 2, cells := 0, slots := 0, locals := 46 }) s m args below meth c H locs 0 0 (MQ below (kQ (S := Unit) eL (fun _ _ => True) D (fun _ => [(h0, .inr (7, [.ref aS, .ref aA, .ref aU, .ref aX, .ref aW, .int pl, .int np, .int li, .int sw, .int lst, .long ad])), (aS, .inr (3, [.ref bS])), (bS, .inl (cI, 512, .inl f)), (aA, .inr (0, [.int sA, .long zA, .int sM, .long zM, .int vO])), (aU, .inr (6, [.ref bT, .ref aD, .int ch, .int ww])), (bT, .inl (cT, 4, .inr (.inr (.inr (.inr (k4 t0 t1 t2 t3)))))), (t0, .inr (4, [.ref i0, .int n0, .int p0])), (i0, .inl (cL, 300, .inr (.inl f0))), (t1, .inr (4, [.ref i1, .int n1, .int p1])), (i1, .inl (cL, 300, .inr (.inl f1))), (t2, .inr (4, [.ref i2, .int n2, .int p2])), (i2, .inl (cL, 300, .inr (.inl f2))), (t3, .inr (4, [.ref i3, .int n3, .int p3])), (i3, .inl (cL, 300, .inr (.inl f3))), (aD, .inr (1, [.ref bD, .int dp])), (bD, .inl (cL, 256, .inr (.inl fd)))]) A) args s 0 0 A) (F0 m 37 ls []) := by
          intro k
          induction k with
          | zero =>
            intro j h hm
            exact absurd hm (Nat.not_lt_zero _)
          | succ k ih =>
            intro j h hm  H locs hP hD hS ls hl
            refine lv_iload_n hx hb dX7_digest_37 rfl (lv_at hl 0 rfl) ?_
            refine lv_bipush (v := 10) hx hb dX7_digest_38 (by decide) ?_
            refine lv_icmp_ge (tgt := 61) hx hb dX7_digest_40 (by decide) (fun c_40_1 => ?_) (fun c_40_1 => ?_)
            · have t_40_1 := c_40_1
              try simp only [kb_eq0, kb_ne0, lg_cmp_lt, lg_cmp_le, lg_cmp_gt, lg_cmp_ge, lg_cmp_eq] at t_40_1
              try simp only [Int32.lt_iff_toInt_lt, Int32.le_iff_toInt_le, ← Int32.toInt_inj, Int64.lt_iff_toInt_lt, Int64.le_iff_toInt_le, ← Int64.toInt_inj, Int32.toInt_toInt64, Int32.reduceToInt, Int64.reduceToInt] at t_40_1
              refine lv_iconst (v := 0) hx hb dX7_digest_61 (by decide) ?_
              refine lv_istore_n (lv' := [(3, .int 0), (1, .long h), (0, .ref h0)]) hx hb dX7_digest_62 rfl hl (by decide) rfl (fun ls hl => ?_)
              have J63 : ∀ (k : Nat) (j : Int32) (h : Int64), (4 - j.toInt).toNat < k → ∀ (H : Heap) (locs : List Loc), va_P D vwCl [(h0, .inr (7, [.ref aS, .ref aA, .ref aU, .ref aX, .ref aW, .int pl, .int np, .int li, .int sw, .int lst, .long ad])), (aS, .inr (3, [.ref bS])), (bS, .inl (cI, 512, .inl f)), (aA, .inr (0, [.int sA, .long zA, .int sM, .long zM, .int vO])), (aU, .inr (6, [.ref bT, .ref aD, .int ch, .int ww])), (bT, .inl (cT, 4, .inr (.inr (.inr (.inr (k4 t0 t1 t2 t3)))))), (t0, .inr (4, [.ref i0, .int n0, .int p0])), (i0, .inl (cL, 300, .inr (.inl f0))), (t1, .inr (4, [.ref i1, .int n1, .int p1])), (i1, .inl (cL, 300, .inr (.inl f1))), (t2, .inr (4, [.ref i2, .int n2, .int p2])), (i2, .inl (cL, 300, .inr (.inl f2))), (t3, .inr (4, [.ref i3, .int n3, .int p3])), (i3, .inl (cL, 300, .inr (.inl f3))), (aD, .inr (1, [.ref bD, .int dp])), (bD, .inl (cL, 256, .inr (.inl fd)))] H → va_D A [(h0, .inr (7, [.ref aS, .ref aA, .ref aU, .ref aX, .ref aW, .int pl, .int np, .int li, .int sw, .int lst, .long ad])), (aS, .inr (3, [.ref bS])), (bS, .inl (cI, 512, .inl f)), (aA, .inr (0, [.int sA, .long zA, .int sM, .long zM, .int vO])), (aU, .inr (6, [.ref bT, .ref aD, .int ch, .int ww])), (bT, .inl (cT, 4, .inr (.inr (.inr (.inr (k4 t0 t1 t2 t3)))))), (t0, .inr (4, [.ref i0, .int n0, .int p0])), (i0, .inl (cL, 300, .inr (.inl f0))), (t1, .inr (4, [.ref i1, .int n1, .int p1])), (i1, .inl (cL, 300, .inr (.inl f1))), (t2, .inr (4, [.ref i2, .int n2, .int p2])), (i2, .inl (cL, 300, .inr (.inl f2))), (t3, .inr (4, [.ref i3, .int n3, .int p3])), (i3, .inl (cL, 300, .inr (.inl f3))), (aD, .inr (1, [.ref bD, .int dp])), (bD, .inl (cL, 256, .inr (.inl fd)))] → va_S A s.heap H locs → ∀ ls : Array Slot, lv_has ls 5 [(3, .int j), (1, .long h), (0, .ref h0)] → W p l e ({ frames := 2, cells := 0, slots := 0, locals := 46 }) s m args below meth c H locs 0 0 (MQ below (kQ (S := Unit) eL (fun _ _ => True) D (fun _ => [(h0, .inr (7, [.ref aS, .ref aA, .ref aU, .ref aX, .ref aW, .int pl, .int np, .int li, .int sw, .int lst, .long ad])), (aS, .inr (3, [.ref bS])), (bS, .inl (cI, 512, .inl f)), (aA, .inr (0, [.int sA, .long zA, .int sM, .long zM, .int vO])), (aU, .inr (6, [.ref bT, .ref aD, .int ch, .int ww])), (bT, .inl (cT, 4, .inr (.inr (.inr (.inr (k4 t0 t1 t2 t3)))))), (t0, .inr (4, [.ref i0, .int n0, .int p0])), (i0, .inl (cL, 300, .inr (.inl f0))), (t1, .inr (4, [.ref i1, .int n1, .int p1])), (i1, .inl (cL, 300, .inr (.inl f1))), (t2, .inr (4, [.ref i2, .int n2, .int p2])), (i2, .inl (cL, 300, .inr (.inl f2))), (t3, .inr (4, [.ref i3, .int n3, .int p3])), (i3, .inl (cL, 300, .inr (.inl f3))), (aD, .inr (1, [.ref bD, .int dp])), (bD, .inl (cL, 256, .inr (.inl fd)))]) A) args s 0 0 A) (F0 m 63 ls []) := by
                intro k
                induction k with
                | zero =>
                  intro j h hm
                  exact absurd hm (Nat.not_lt_zero _)
                | succ k ih =>
                  intro j h hm  H locs hP hD hS ls hl
                  refine lv_iload_n hx hb dX7_digest_63 rfl (lv_at hl 0 rfl) ?_
                  refine lv_iconst (v := 4) hx hb dX7_digest_64 (by decide) ?_
                  refine lv_icmp_ge (tgt := 96) hx hb dX7_digest_65 (by decide) (fun c_65_2 => ?_) (fun c_65_2 => ?_)
                  · have t_65_2 := c_65_2
                    try simp only [kb_eq0, kb_ne0, lg_cmp_lt, lg_cmp_le, lg_cmp_gt, lg_cmp_ge, lg_cmp_eq] at t_65_2
                    try simp only [Int32.lt_iff_toInt_lt, Int32.le_iff_toInt_le, ← Int32.toInt_inj, Int64.lt_iff_toInt_lt, Int64.le_iff_toInt_le, ← Int64.toInt_inj, Int32.toInt_toInt64, Int32.reduceToInt, Int64.reduceToInt] at t_65_2
                    refine lv_iconst (v := 0) hx hb dX7_digest_96 (by decide) ?_
                    refine lv_istore_n (lv' := [(3, .int 0), (1, .long h), (0, .ref h0)]) hx hb dX7_digest_97 rfl hl (by decide) rfl (fun ls hl => ?_)
                    have J98 : ∀ (k : Nat) (j : Int32) (h : Int64), (256 - j.toInt).toNat < k → ∀ (H : Heap) (locs : List Loc), va_P D vwCl [(h0, .inr (7, [.ref aS, .ref aA, .ref aU, .ref aX, .ref aW, .int pl, .int np, .int li, .int sw, .int lst, .long ad])), (aS, .inr (3, [.ref bS])), (bS, .inl (cI, 512, .inl f)), (aA, .inr (0, [.int sA, .long zA, .int sM, .long zM, .int vO])), (aU, .inr (6, [.ref bT, .ref aD, .int ch, .int ww])), (bT, .inl (cT, 4, .inr (.inr (.inr (.inr (k4 t0 t1 t2 t3)))))), (t0, .inr (4, [.ref i0, .int n0, .int p0])), (i0, .inl (cL, 300, .inr (.inl f0))), (t1, .inr (4, [.ref i1, .int n1, .int p1])), (i1, .inl (cL, 300, .inr (.inl f1))), (t2, .inr (4, [.ref i2, .int n2, .int p2])), (i2, .inl (cL, 300, .inr (.inl f2))), (t3, .inr (4, [.ref i3, .int n3, .int p3])), (i3, .inl (cL, 300, .inr (.inl f3))), (aD, .inr (1, [.ref bD, .int dp])), (bD, .inl (cL, 256, .inr (.inl fd)))] H → va_D A [(h0, .inr (7, [.ref aS, .ref aA, .ref aU, .ref aX, .ref aW, .int pl, .int np, .int li, .int sw, .int lst, .long ad])), (aS, .inr (3, [.ref bS])), (bS, .inl (cI, 512, .inl f)), (aA, .inr (0, [.int sA, .long zA, .int sM, .long zM, .int vO])), (aU, .inr (6, [.ref bT, .ref aD, .int ch, .int ww])), (bT, .inl (cT, 4, .inr (.inr (.inr (.inr (k4 t0 t1 t2 t3)))))), (t0, .inr (4, [.ref i0, .int n0, .int p0])), (i0, .inl (cL, 300, .inr (.inl f0))), (t1, .inr (4, [.ref i1, .int n1, .int p1])), (i1, .inl (cL, 300, .inr (.inl f1))), (t2, .inr (4, [.ref i2, .int n2, .int p2])), (i2, .inl (cL, 300, .inr (.inl f2))), (t3, .inr (4, [.ref i3, .int n3, .int p3])), (i3, .inl (cL, 300, .inr (.inl f3))), (aD, .inr (1, [.ref bD, .int dp])), (bD, .inl (cL, 256, .inr (.inl fd)))] → va_S A s.heap H locs → ∀ ls : Array Slot, lv_has ls 5 [(3, .int j), (1, .long h), (0, .ref h0)] → W p l e ({ frames := 2, cells := 0, slots := 0, locals := 46 }) s m args below meth c H locs 0 0 (MQ below (kQ (S := Unit) eL (fun _ _ => True) D (fun _ => [(h0, .inr (7, [.ref aS, .ref aA, .ref aU, .ref aX, .ref aW, .int pl, .int np, .int li, .int sw, .int lst, .long ad])), (aS, .inr (3, [.ref bS])), (bS, .inl (cI, 512, .inl f)), (aA, .inr (0, [.int sA, .long zA, .int sM, .long zM, .int vO])), (aU, .inr (6, [.ref bT, .ref aD, .int ch, .int ww])), (bT, .inl (cT, 4, .inr (.inr (.inr (.inr (k4 t0 t1 t2 t3)))))), (t0, .inr (4, [.ref i0, .int n0, .int p0])), (i0, .inl (cL, 300, .inr (.inl f0))), (t1, .inr (4, [.ref i1, .int n1, .int p1])), (i1, .inl (cL, 300, .inr (.inl f1))), (t2, .inr (4, [.ref i2, .int n2, .int p2])), (i2, .inl (cL, 300, .inr (.inl f2))), (t3, .inr (4, [.ref i3, .int n3, .int p3])), (i3, .inl (cL, 300, .inr (.inl f3))), (aD, .inr (1, [.ref bD, .int dp])), (bD, .inl (cL, 256, .inr (.inl fd)))]) A) args s 0 0 A) (F0 m 98 ls []) := by
                      intro k
                      induction k with
                      | zero =>
                        intro j h hm
                        exact absurd hm (Nat.not_lt_zero _)
                      | succ k ih =>
                        intro j h hm  H locs hP hD hS ls hl
                        refine lv_iload_n hx hb dX7_digest_98 rfl (lv_at hl 0 rfl) ?_
                        refine lv_sipush (v := 256) hx hb dX7_digest_99 (by decide) ?_
                        refine lv_icmp_ge (tgt := 129) hx hb dX7_digest_102 (by decide) (fun c_102_3 => ?_) (fun c_102_3 => ?_)
                        · have t_102_3 := c_102_3
                          try simp only [kb_eq0, kb_ne0, lg_cmp_lt, lg_cmp_le, lg_cmp_gt, lg_cmp_ge, lg_cmp_eq] at t_102_3
                          try simp only [Int32.lt_iff_toInt_lt, Int32.le_iff_toInt_le, ← Int32.toInt_inj, Int64.lt_iff_toInt_lt, Int64.le_iff_toInt_le, ← Int64.toInt_inj, Int32.toInt_toInt64, Int32.reduceToInt, Int64.reduceToInt] at t_102_3
                          refine lv_lload_n hx hb dX7_digest_129 rfl (lv_at hl 1 rfl) ?_
                          refine kLret (u := ()) hx hb hr hlocks hS dX7_digest_130 ?_ (hP.sub [0, 1, 2, 3, 4, 5, 6, 7, 8, 9, 10, 11, 12, 13, 14, 15] rfl) (hD.sub [0, 1, 2, 3, 4, 5, 6, 7, 8, 9, 10, 11, 12, 13, 14, 15] (by decide) rfl)
                          exact trivial
                        · have t_102_3 := c_102_3
                          try simp only [kb_eq0, kb_ne0, lg_cmp_lt, lg_cmp_le, lg_cmp_gt, lg_cmp_ge, lg_cmp_eq] at t_102_3
                          try simp only [Int32.lt_iff_toInt_lt, Int32.le_iff_toInt_le, ← Int32.toInt_inj, Int64.lt_iff_toInt_lt, Int64.le_iff_toInt_le, ← Int64.toInt_inj, Int32.toInt_toInt64, Int32.reduceToInt, Int64.reduceToInt] at t_102_3
                          refine lv_ldc2 (v := 31) hx hb hown (hts (.constantLong RX7 169 (31)) (List.mem_of_getElem? (i := 2) rfl)) dX7_digest_105 ?_
                          refine lv_lload_n hx hb dX7_digest_108 rfl (lv_at hl 1 rfl) ?_
                          refine lv_lmul hx hb dX7_digest_109 ?_
                          refine lv_aload_n hx hb dX7_digest_110 rfl (lv_at hl 2 rfl) ?_
                          refine va_get (D := D) (ci := 7) (v := .ref aU) (C := RX7) (T := TX7) (N := 11) hx hb hts iX7_digest_X7 hown hK hP 0 rfl rfl 2 (by decide) (hts (.fieldLink RX7 26 "TapeCalculator" "units" "LTapeCalculator$Units;") (List.mem_of_getElem? (i := 4) rfl)) (fun _ h9 => h9) rfl dX7_digest_111 ?_
                          refine va_get (D := D) (ci := 6) (v := .ref aD) (C := RX6) (T := TX6) (N := 4) hx hb hts iX7_digest_X6 hown hK hP 4 rfl rfl 1 (by decide) (hts (.fieldLink RX7 87 "TapeCalculator$Units" "drum" "LTapeCalculator$Drum;") (List.mem_of_getElem? (i := 5) rfl)) (fun _ h9 => h9) rfl dX7_digest_114 ?_
                          refine lv_iload_n hx hb dX7_digest_117 rfl (lv_at hl 0 rfl) ?_
                          refine kCallL (wr := [(h0, .inr (7, [.ref aS, .ref aA, .ref aU, .ref aX, .ref aW, .int pl, .int np, .int li, .int sw, .int lst, .long ad])), (aS, .inr (3, [.ref bS])), (bS, .inl (cI, 512, .inl f)), (aA, .inr (0, [.int sA, .long zA, .int sM, .long zM, .int vO])), (aU, .inr (6, [.ref bT, .ref aD, .int ch, .int ww])), (bT, .inl (cT, 4, .inr (.inr (.inr (.inr (k4 t0 t1 t2 t3)))))), (t0, .inr (4, [.ref i0, .int n0, .int p0])), (i0, .inl (cL, 300, .inr (.inl f0))), (t1, .inr (4, [.ref i1, .int n1, .int p1])), (i1, .inl (cL, 300, .inr (.inl f1))), (t2, .inr (4, [.ref i2, .int n2, .int p2])), (i2, .inl (cL, 300, .inr (.inl f2))), (t3, .inr (4, [.ref i3, .int n3, .int p3])), (i3, .inl (cL, 300, .inr (.inl f3)))]) (va_runV (As := [.int j]) (rest := [.long (31 * h)]) ⟨hx, hb, hml, hown, hts⟩ (g_wordAt l D cI cL cB cZ cT _ aD bD dp fd j) (cwV 1 hts gX7_digest_X1_wordAt rfl rfl rfl (by decide +kernel) ⟨Nat.le_of_ble_eq_true rfl, Nat.le_of_ble_eq_true rfl⟩) (kPreV hG hP hD [14, 15] rfl (by decide) 0 1 rfl rfl rfl) rfl rfl hl.1 rfl (lv_room (Nat.le_of_ble_eq_true rfl)) dX7_digest_118 ⟨Nat.le_of_ble_eq_true rfl, Nat.le_of_ble_eq_true rfl⟩) hA hP hD hS [14, 15] [0, 1, 2, 3, 4, 5, 6, 7, 8, 9, 10, 11, 12, 13] rfl rfl (by decide) (by decide) (fun r_5 u_r_5 H locs wr_5 hP hD hS => ?_)
                          have hP : va_P D vwCl [(h0, .inr (7, [.ref aS, .ref aA, .ref aU, .ref aX, .ref aW, .int pl, .int np, .int li, .int sw, .int lst, .long ad])), (aS, .inr (3, [.ref bS])), (bS, .inl (cI, 512, .inl f)), (aA, .inr (0, [.int sA, .long zA, .int sM, .long zM, .int vO])), (aU, .inr (6, [.ref bT, .ref aD, .int ch, .int ww])), (bT, .inl (cT, 4, .inr (.inr (.inr (.inr (k4 t0 t1 t2 t3)))))), (t0, .inr (4, [.ref i0, .int n0, .int p0])), (i0, .inl (cL, 300, .inr (.inl f0))), (t1, .inr (4, [.ref i1, .int n1, .int p1])), (i1, .inl (cL, 300, .inr (.inl f1))), (t2, .inr (4, [.ref i2, .int n2, .int p2])), (i2, .inl (cL, 300, .inr (.inl f2))), (t3, .inr (4, [.ref i3, .int n3, .int p3])), (i3, .inl (cL, 300, .inr (.inl f3))), (aD, .inr (1, [.ref bD, .int dp])), (bD, .inl (cL, 256, .inr (.inl fd)))] H := hP
                          have hD : va_D A [(h0, .inr (7, [.ref aS, .ref aA, .ref aU, .ref aX, .ref aW, .int pl, .int np, .int li, .int sw, .int lst, .long ad])), (aS, .inr (3, [.ref bS])), (bS, .inl (cI, 512, .inl f)), (aA, .inr (0, [.int sA, .long zA, .int sM, .long zM, .int vO])), (aU, .inr (6, [.ref bT, .ref aD, .int ch, .int ww])), (bT, .inl (cT, 4, .inr (.inr (.inr (.inr (k4 t0 t1 t2 t3)))))), (t0, .inr (4, [.ref i0, .int n0, .int p0])), (i0, .inl (cL, 300, .inr (.inl f0))), (t1, .inr (4, [.ref i1, .int n1, .int p1])), (i1, .inl (cL, 300, .inr (.inl f1))), (t2, .inr (4, [.ref i2, .int n2, .int p2])), (i2, .inl (cL, 300, .inr (.inl f2))), (t3, .inr (4, [.ref i3, .int n3, .int p3])), (i3, .inl (cL, 300, .inr (.inl f3))), (aD, .inr (1, [.ref bD, .int dp])), (bD, .inl (cL, 256, .inr (.inl fd)))] := hD
                          try dsimp only at wr_5
                          refine lv_ladd hx hb dX7_digest_121 ?_
                          refine lv_topl (fun x_6 ex_6 => ?_)
                          refine lv_lstore_n (lv' := [(1, .long x_6), (3, .int j), (0, .ref h0)]) hx hb dX7_digest_122 rfl hl (by decide) rfl (fun ls hl => ?_)
                          obtain ⟨x_7, ex_7⟩ : ∃ y : Int32, y = j + 1 := ⟨_, rfl⟩
                          refine lv_iinc (v := x_7) (lv' := [(3, .int x_7), (1, .long x_6), (0, .ref h0)]) hx hb dX7_digest_123 hl (k := 1) rfl (by rw [ex_7]; rfl) (by decide) rfl (fun ls hl => ?_)
                          refine lv_goto (tgt := 98) hx hb dX7_digest_126 (by decide) ?_
                          have hz0 : (256 : Int32).toInt = 256 := by decide
                          have hd := k_inc (i := j) (n := 256) (by omega)
                          rw [← ex_7] at hd
                          exact ih x_7 x_6 (by omega)  _ _ (hP.sub [0, 1, 2, 3, 4, 5, 6, 7, 8, 9, 10, 11, 12, 13, 14, 15] rfl) (hD.sub [0, 1, 2, 3, 4, 5, 6, 7, 8, 9, 10, 11, 12, 13, 14, 15] (by decide) rfl) hS ls (lv_sub hl [0, 1, 2] rfl)
                    exact J98 _ 0 h (Nat.lt_succ_self _)  _ _ (hP.sub [0, 1, 2, 3, 4, 5, 6, 7, 8, 9, 10, 11, 12, 13, 14, 15] rfl) (hD.sub [0, 1, 2, 3, 4, 5, 6, 7, 8, 9, 10, 11, 12, 13, 14, 15] (by decide) rfl) hS ls (lv_sub hl [0, 1, 2] rfl)
                  · have t_65_2 := c_65_2
                    try simp only [kb_eq0, kb_ne0, lg_cmp_lt, lg_cmp_le, lg_cmp_gt, lg_cmp_ge, lg_cmp_eq] at t_65_2
                    try simp only [Int32.lt_iff_toInt_lt, Int32.le_iff_toInt_le, ← Int32.toInt_inj, Int64.lt_iff_toInt_lt, Int64.le_iff_toInt_le, ← Int64.toInt_inj, Int32.toInt_toInt64, Int32.reduceToInt, Int64.reduceToInt] at t_65_2
                    refine lv_aload_n hx hb dX7_digest_68 rfl (lv_at hl 2 rfl) ?_
                    refine va_get (D := D) (ci := 7) (v := .ref aU) (C := RX7) (T := TX7) (N := 11) hx hb hts iX7_digest_X7 hown hK hP 0 rfl rfl 2 (by decide) (hts (.fieldLink RX7 26 "TapeCalculator" "units" "LTapeCalculator$Units;") (List.mem_of_getElem? (i := 4) rfl)) (fun _ h9 => h9) rfl dX7_digest_69 ?_
                    refine lv_iload_n hx hb dX7_digest_72 rfl (lv_at hl 0 rfl) ?_
                    refine kCallR (wr := [(h0, .inr (7, [.ref aS, .ref aA, .ref aU, .ref aX, .ref aW, .int pl, .int np, .int li, .int sw, .int lst, .long ad])), (aS, .inr (3, [.ref bS])), (bS, .inl (cI, 512, .inl f)), (aA, .inr (0, [.int sA, .long zA, .int sM, .long zM, .int vO])), (t0, .inr (4, [.ref i0, .int n0, .int p0])), (i0, .inl (cL, 300, .inr (.inl f0))), (t1, .inr (4, [.ref i1, .int n1, .int p1])), (i1, .inl (cL, 300, .inr (.inl f1))), (t2, .inr (4, [.ref i2, .int n2, .int p2])), (i2, .inl (cL, 300, .inr (.inl f2))), (t3, .inr (4, [.ref i3, .int n3, .int p3])), (i3, .inl (cL, 300, .inr (.inl f3))), (aD, .inr (1, [.ref bD, .int dp])), (bD, .inl (cL, 256, .inr (.inl fd)))]) (va_runV (As := [.int j]) (rest := []) ⟨hx, hb, hml, hown, hts⟩ (g_tapeAt l D cI cL cB cZ cT _ aU bT aD ch ww t0 t1 t2 t3 j) (cwV 1 hts gX7_digest_X6_tapeAt rfl rfl rfl (by decide +kernel) ⟨Nat.le_of_ble_eq_true rfl, Nat.le_of_ble_eq_true rfl⟩) (kPreV hG hP hD [4, 5] rfl (by decide) 0 6 rfl rfl rfl) rfl rfl hl.1 rfl (lv_room (Nat.le_of_ble_eq_true rfl)) dX7_digest_73 ⟨Nat.le_of_ble_eq_true rfl, Nat.le_of_ble_eq_true rfl⟩) hA hP hD hS [4, 5] [0, 1, 2, 3, 6, 7, 8, 9, 10, 11, 12, 13, 14, 15] rfl rfl (by decide) (by decide) (fun r_8 u_r_8 H locs wr_8 hP hD hS => ?_)
                    have hP : va_P D vwCl [(h0, .inr (7, [.ref aS, .ref aA, .ref aU, .ref aX, .ref aW, .int pl, .int np, .int li, .int sw, .int lst, .long ad])), (aS, .inr (3, [.ref bS])), (bS, .inl (cI, 512, .inl f)), (aA, .inr (0, [.int sA, .long zA, .int sM, .long zM, .int vO])), (t0, .inr (4, [.ref i0, .int n0, .int p0])), (i0, .inl (cL, 300, .inr (.inl f0))), (t1, .inr (4, [.ref i1, .int n1, .int p1])), (i1, .inl (cL, 300, .inr (.inl f1))), (t2, .inr (4, [.ref i2, .int n2, .int p2])), (i2, .inl (cL, 300, .inr (.inl f2))), (t3, .inr (4, [.ref i3, .int n3, .int p3])), (i3, .inl (cL, 300, .inr (.inl f3))), (aD, .inr (1, [.ref bD, .int dp])), (bD, .inl (cL, 256, .inr (.inl fd))), (aU, .inr (6, [.ref bT, .ref aD, .int ch, .int ww])), (bT, .inl (cT, 4, .inr (.inr (.inr (.inr (k4 t0 t1 t2 t3))))))] H := hP
                    have hD : va_D A [(h0, .inr (7, [.ref aS, .ref aA, .ref aU, .ref aX, .ref aW, .int pl, .int np, .int li, .int sw, .int lst, .long ad])), (aS, .inr (3, [.ref bS])), (bS, .inl (cI, 512, .inl f)), (aA, .inr (0, [.int sA, .long zA, .int sM, .long zM, .int vO])), (t0, .inr (4, [.ref i0, .int n0, .int p0])), (i0, .inl (cL, 300, .inr (.inl f0))), (t1, .inr (4, [.ref i1, .int n1, .int p1])), (i1, .inl (cL, 300, .inr (.inl f1))), (t2, .inr (4, [.ref i2, .int n2, .int p2])), (i2, .inl (cL, 300, .inr (.inl f2))), (t3, .inr (4, [.ref i3, .int n3, .int p3])), (i3, .inl (cL, 300, .inr (.inl f3))), (aD, .inr (1, [.ref bD, .int dp])), (bD, .inl (cL, 256, .inr (.inl fd))), (aU, .inr (6, [.ref bT, .ref aD, .int ch, .int ww])), (bT, .inl (cT, 4, .inr (.inr (.inr (.inr (k4 t0 t1 t2 t3))))))] := hD
                    try dsimp only at wr_8
                    rcases wr_8 with rfl | rfl | rfl | rfl | rfl
                    · show W _ _ _ _ _ _ _ _ _ _ _ _ _ _ _ (F0 _ _ _ (Value.null :: _))
                      refine lv_astoreN (lv' := [(4, .null), (3, .int j), (1, .long h), (0, .ref h0)]) hx hb dX7_digest_76 hl (by decide) rfl (fun ls hl => ?_)
                      refine lv_aloadN hx hb dX7_digest_78 (lv_at hl 0 rfl) ?_
                      refine lv_ifnullN (tgt := 90) hx hb dX7_digest_80 (by decide) ?_
                      obtain ⟨x_9, ex_9⟩ : ∃ y : Int32, y = j + 1 := ⟨_, rfl⟩
                      refine lv_iinc (v := x_9) (lv' := [(3, .int x_9), (4, .null), (1, .long h), (0, .ref h0)]) hx hb dX7_digest_90 hl (k := 1) rfl (by rw [ex_9]; rfl) (by decide) rfl (fun ls hl => ?_)
                      refine lv_goto (tgt := 63) hx hb dX7_digest_93 (by decide) ?_
                      have hz0 : (4 : Int32).toInt = 4 := by decide
                      have hd := k_inc (i := j) (n := 4) (by omega)
                      rw [← ex_9] at hd
                      exact ih x_9 h (by omega)  _ _ (hP.sub [0, 1, 2, 3, 14, 15, 4, 5, 6, 7, 8, 9, 10, 11, 12, 13] rfl) (hD.sub [0, 1, 2, 3, 14, 15, 4, 5, 6, 7, 8, 9, 10, 11, 12, 13] (by decide) rfl) hS ls (lv_sub hl [0, 2, 3] rfl)
                    · show W _ _ _ _ _ _ _ _ _ _ _ _ _ _ _ (F0 _ _ _ (Value.ref t0 :: _))
                      refine lv_astore (lv' := [(4, .ref t0), (3, .int j), (1, .long h), (0, .ref h0)]) hx hb dX7_digest_76 hl (by decide) rfl (fun ls hl => ?_)
                      refine lv_aload hx hb dX7_digest_78 (lv_at hl 0 rfl) ?_
                      refine lv_ifnull hx hb dX7_digest_80 ?_
                      refine lv_aload hx hb dX7_digest_83 (lv_at hl 0 rfl) ?_
                      refine lv_lload_n hx hb dX7_digest_85 rfl (lv_at hl 2 rfl) ?_
                      refine kCallL (wr := [(h0, .inr (7, [.ref aS, .ref aA, .ref aU, .ref aX, .ref aW, .int pl, .int np, .int li, .int sw, .int lst, .long ad])), (aS, .inr (3, [.ref bS])), (bS, .inl (cI, 512, .inl f)), (aA, .inr (0, [.int sA, .long zA, .int sM, .long zM, .int vO])), (t1, .inr (4, [.ref i1, .int n1, .int p1])), (i1, .inl (cL, 300, .inr (.inl f1))), (t2, .inr (4, [.ref i2, .int n2, .int p2])), (i2, .inl (cL, 300, .inr (.inl f2))), (t3, .inr (4, [.ref i3, .int n3, .int p3])), (i3, .inl (cL, 300, .inr (.inl f3))), (aD, .inr (1, [.ref bD, .int dp])), (bD, .inl (cL, 256, .inr (.inl fd))), (aU, .inr (6, [.ref bT, .ref aD, .int ch, .int ww])), (bT, .inl (cT, 4, .inr (.inr (.inr (.inr (k4 t0 t1 t2 t3))))))]) (va_runV (As := [.long h]) (rest := []) ⟨hx, hb, hml, hown, hts⟩ (g_digestOnto l D cI cL cB cZ cT _ t0 i0 n0 p0 f0 h) (cwV 1 hts gX7_digest_X4_digestOnto rfl rfl rfl (by decide +kernel) ⟨Nat.le_of_ble_eq_true rfl, Nat.le_of_ble_eq_true rfl⟩) (kPreV hG hP hD [4, 5] rfl (by decide) 0 4 rfl rfl rfl) rfl rfl hl.1 rfl (lv_room (Nat.le_of_ble_eq_true rfl)) dX7_digest_86 ⟨Nat.le_of_ble_eq_true rfl, Nat.le_of_ble_eq_true rfl⟩) hA hP hD hS [4, 5] [0, 1, 2, 3, 6, 7, 8, 9, 10, 11, 12, 13, 14, 15] rfl rfl (by decide) (by decide) (fun r_10 u_r_10 H locs wr_10 hP hD hS => ?_)
                      have hP : va_P D vwCl [(h0, .inr (7, [.ref aS, .ref aA, .ref aU, .ref aX, .ref aW, .int pl, .int np, .int li, .int sw, .int lst, .long ad])), (aS, .inr (3, [.ref bS])), (bS, .inl (cI, 512, .inl f)), (aA, .inr (0, [.int sA, .long zA, .int sM, .long zM, .int vO])), (t1, .inr (4, [.ref i1, .int n1, .int p1])), (i1, .inl (cL, 300, .inr (.inl f1))), (t2, .inr (4, [.ref i2, .int n2, .int p2])), (i2, .inl (cL, 300, .inr (.inl f2))), (t3, .inr (4, [.ref i3, .int n3, .int p3])), (i3, .inl (cL, 300, .inr (.inl f3))), (aD, .inr (1, [.ref bD, .int dp])), (bD, .inl (cL, 256, .inr (.inl fd))), (aU, .inr (6, [.ref bT, .ref aD, .int ch, .int ww])), (bT, .inl (cT, 4, .inr (.inr (.inr (.inr (k4 t0 t1 t2 t3)))))), (t0, .inr (4, [.ref i0, .int n0, .int p0])), (i0, .inl (cL, 300, .inr (.inl f0)))] H := hP
                      have hD : va_D A [(h0, .inr (7, [.ref aS, .ref aA, .ref aU, .ref aX, .ref aW, .int pl, .int np, .int li, .int sw, .int lst, .long ad])), (aS, .inr (3, [.ref bS])), (bS, .inl (cI, 512, .inl f)), (aA, .inr (0, [.int sA, .long zA, .int sM, .long zM, .int vO])), (t1, .inr (4, [.ref i1, .int n1, .int p1])), (i1, .inl (cL, 300, .inr (.inl f1))), (t2, .inr (4, [.ref i2, .int n2, .int p2])), (i2, .inl (cL, 300, .inr (.inl f2))), (t3, .inr (4, [.ref i3, .int n3, .int p3])), (i3, .inl (cL, 300, .inr (.inl f3))), (aD, .inr (1, [.ref bD, .int dp])), (bD, .inl (cL, 256, .inr (.inl fd))), (aU, .inr (6, [.ref bT, .ref aD, .int ch, .int ww])), (bT, .inl (cT, 4, .inr (.inr (.inr (.inr (k4 t0 t1 t2 t3)))))), (t0, .inr (4, [.ref i0, .int n0, .int p0])), (i0, .inl (cL, 300, .inr (.inl f0)))] := hD
                      try dsimp only at wr_10
                      refine lv_lstore_n (lv' := [(1, .long r_10), (4, .ref t0), (3, .int j), (0, .ref h0)]) hx hb dX7_digest_89 rfl hl (by decide) rfl (fun ls hl => ?_)
                      obtain ⟨x_11, ex_11⟩ : ∃ y : Int32, y = j + 1 := ⟨_, rfl⟩
                      refine lv_iinc (v := x_11) (lv' := [(3, .int x_11), (1, .long r_10), (4, .ref t0), (0, .ref h0)]) hx hb dX7_digest_90 hl (k := 2) rfl (by rw [ex_11]; rfl) (by decide) rfl (fun ls hl => ?_)
                      refine lv_goto (tgt := 63) hx hb dX7_digest_93 (by decide) ?_
                      have hz0 : (4 : Int32).toInt = 4 := by decide
                      have hd := k_inc (i := j) (n := 4) (by omega)
                      rw [← ex_11] at hd
                      exact ih x_11 r_10 (by omega)  _ _ (hP.sub [0, 1, 2, 3, 12, 13, 14, 15, 4, 5, 6, 7, 8, 9, 10, 11] rfl) (hD.sub [0, 1, 2, 3, 12, 13, 14, 15, 4, 5, 6, 7, 8, 9, 10, 11] (by decide) rfl) hS ls (lv_sub hl [0, 1, 3] rfl)
                    · show W _ _ _ _ _ _ _ _ _ _ _ _ _ _ _ (F0 _ _ _ (Value.ref t1 :: _))
                      refine lv_astore (lv' := [(4, .ref t1), (3, .int j), (1, .long h), (0, .ref h0)]) hx hb dX7_digest_76 hl (by decide) rfl (fun ls hl => ?_)
                      refine lv_aload hx hb dX7_digest_78 (lv_at hl 0 rfl) ?_
                      refine lv_ifnull hx hb dX7_digest_80 ?_
                      refine lv_aload hx hb dX7_digest_83 (lv_at hl 0 rfl) ?_
                      refine lv_lload_n hx hb dX7_digest_85 rfl (lv_at hl 2 rfl) ?_
                      refine kCallL (wr := [(h0, .inr (7, [.ref aS, .ref aA, .ref aU, .ref aX, .ref aW, .int pl, .int np, .int li, .int sw, .int lst, .long ad])), (aS, .inr (3, [.ref bS])), (bS, .inl (cI, 512, .inl f)), (aA, .inr (0, [.int sA, .long zA, .int sM, .long zM, .int vO])), (t0, .inr (4, [.ref i0, .int n0, .int p0])), (i0, .inl (cL, 300, .inr (.inl f0))), (t2, .inr (4, [.ref i2, .int n2, .int p2])), (i2, .inl (cL, 300, .inr (.inl f2))), (t3, .inr (4, [.ref i3, .int n3, .int p3])), (i3, .inl (cL, 300, .inr (.inl f3))), (aD, .inr (1, [.ref bD, .int dp])), (bD, .inl (cL, 256, .inr (.inl fd))), (aU, .inr (6, [.ref bT, .ref aD, .int ch, .int ww])), (bT, .inl (cT, 4, .inr (.inr (.inr (.inr (k4 t0 t1 t2 t3))))))]) (va_runV (As := [.long h]) (rest := []) ⟨hx, hb, hml, hown, hts⟩ (g_digestOnto l D cI cL cB cZ cT _ t1 i1 n1 p1 f1 h) (cwV 1 hts gX7_digest_X4_digestOnto rfl rfl rfl (by decide +kernel) ⟨Nat.le_of_ble_eq_true rfl, Nat.le_of_ble_eq_true rfl⟩) (kPreV hG hP hD [6, 7] rfl (by decide) 0 4 rfl rfl rfl) rfl rfl hl.1 rfl (lv_room (Nat.le_of_ble_eq_true rfl)) dX7_digest_86 ⟨Nat.le_of_ble_eq_true rfl, Nat.le_of_ble_eq_true rfl⟩) hA hP hD hS [6, 7] [0, 1, 2, 3, 4, 5, 8, 9, 10, 11, 12, 13, 14, 15] rfl rfl (by decide) (by decide) (fun r_12 u_r_12 H locs wr_12 hP hD hS => ?_)
                      have hP : va_P D vwCl [(h0, .inr (7, [.ref aS, .ref aA, .ref aU, .ref aX, .ref aW, .int pl, .int np, .int li, .int sw, .int lst, .long ad])), (aS, .inr (3, [.ref bS])), (bS, .inl (cI, 512, .inl f)), (aA, .inr (0, [.int sA, .long zA, .int sM, .long zM, .int vO])), (t0, .inr (4, [.ref i0, .int n0, .int p0])), (i0, .inl (cL, 300, .inr (.inl f0))), (t2, .inr (4, [.ref i2, .int n2, .int p2])), (i2, .inl (cL, 300, .inr (.inl f2))), (t3, .inr (4, [.ref i3, .int n3, .int p3])), (i3, .inl (cL, 300, .inr (.inl f3))), (aD, .inr (1, [.ref bD, .int dp])), (bD, .inl (cL, 256, .inr (.inl fd))), (aU, .inr (6, [.ref bT, .ref aD, .int ch, .int ww])), (bT, .inl (cT, 4, .inr (.inr (.inr (.inr (k4 t0 t1 t2 t3)))))), (t1, .inr (4, [.ref i1, .int n1, .int p1])), (i1, .inl (cL, 300, .inr (.inl f1)))] H := hP
                      have hD : va_D A [(h0, .inr (7, [.ref aS, .ref aA, .ref aU, .ref aX, .ref aW, .int pl, .int np, .int li, .int sw, .int lst, .long ad])), (aS, .inr (3, [.ref bS])), (bS, .inl (cI, 512, .inl f)), (aA, .inr (0, [.int sA, .long zA, .int sM, .long zM, .int vO])), (t0, .inr (4, [.ref i0, .int n0, .int p0])), (i0, .inl (cL, 300, .inr (.inl f0))), (t2, .inr (4, [.ref i2, .int n2, .int p2])), (i2, .inl (cL, 300, .inr (.inl f2))), (t3, .inr (4, [.ref i3, .int n3, .int p3])), (i3, .inl (cL, 300, .inr (.inl f3))), (aD, .inr (1, [.ref bD, .int dp])), (bD, .inl (cL, 256, .inr (.inl fd))), (aU, .inr (6, [.ref bT, .ref aD, .int ch, .int ww])), (bT, .inl (cT, 4, .inr (.inr (.inr (.inr (k4 t0 t1 t2 t3)))))), (t1, .inr (4, [.ref i1, .int n1, .int p1])), (i1, .inl (cL, 300, .inr (.inl f1)))] := hD
                      try dsimp only at wr_12
                      refine lv_lstore_n (lv' := [(1, .long r_12), (4, .ref t1), (3, .int j), (0, .ref h0)]) hx hb dX7_digest_89 rfl hl (by decide) rfl (fun ls hl => ?_)
                      obtain ⟨x_13, ex_13⟩ : ∃ y : Int32, y = j + 1 := ⟨_, rfl⟩
                      refine lv_iinc (v := x_13) (lv' := [(3, .int x_13), (1, .long r_12), (4, .ref t1), (0, .ref h0)]) hx hb dX7_digest_90 hl (k := 2) rfl (by rw [ex_13]; rfl) (by decide) rfl (fun ls hl => ?_)
                      refine lv_goto (tgt := 63) hx hb dX7_digest_93 (by decide) ?_
                      have hz0 : (4 : Int32).toInt = 4 := by decide
                      have hd := k_inc (i := j) (n := 4) (by omega)
                      rw [← ex_13] at hd
                      exact ih x_13 r_12 (by omega)  _ _ (hP.sub [0, 1, 2, 3, 12, 13, 4, 5, 14, 15, 6, 7, 8, 9, 10, 11] rfl) (hD.sub [0, 1, 2, 3, 12, 13, 4, 5, 14, 15, 6, 7, 8, 9, 10, 11] (by decide) rfl) hS ls (lv_sub hl [0, 1, 3] rfl)
                    · show W _ _ _ _ _ _ _ _ _ _ _ _ _ _ _ (F0 _ _ _ (Value.ref t2 :: _))
                      refine lv_astore (lv' := [(4, .ref t2), (3, .int j), (1, .long h), (0, .ref h0)]) hx hb dX7_digest_76 hl (by decide) rfl (fun ls hl => ?_)
                      refine lv_aload hx hb dX7_digest_78 (lv_at hl 0 rfl) ?_
                      refine lv_ifnull hx hb dX7_digest_80 ?_
                      refine lv_aload hx hb dX7_digest_83 (lv_at hl 0 rfl) ?_
                      refine lv_lload_n hx hb dX7_digest_85 rfl (lv_at hl 2 rfl) ?_
                      refine kCallL (wr := [(h0, .inr (7, [.ref aS, .ref aA, .ref aU, .ref aX, .ref aW, .int pl, .int np, .int li, .int sw, .int lst, .long ad])), (aS, .inr (3, [.ref bS])), (bS, .inl (cI, 512, .inl f)), (aA, .inr (0, [.int sA, .long zA, .int sM, .long zM, .int vO])), (t0, .inr (4, [.ref i0, .int n0, .int p0])), (i0, .inl (cL, 300, .inr (.inl f0))), (t1, .inr (4, [.ref i1, .int n1, .int p1])), (i1, .inl (cL, 300, .inr (.inl f1))), (t3, .inr (4, [.ref i3, .int n3, .int p3])), (i3, .inl (cL, 300, .inr (.inl f3))), (aD, .inr (1, [.ref bD, .int dp])), (bD, .inl (cL, 256, .inr (.inl fd))), (aU, .inr (6, [.ref bT, .ref aD, .int ch, .int ww])), (bT, .inl (cT, 4, .inr (.inr (.inr (.inr (k4 t0 t1 t2 t3))))))]) (va_runV (As := [.long h]) (rest := []) ⟨hx, hb, hml, hown, hts⟩ (g_digestOnto l D cI cL cB cZ cT _ t2 i2 n2 p2 f2 h) (cwV 1 hts gX7_digest_X4_digestOnto rfl rfl rfl (by decide +kernel) ⟨Nat.le_of_ble_eq_true rfl, Nat.le_of_ble_eq_true rfl⟩) (kPreV hG hP hD [8, 9] rfl (by decide) 0 4 rfl rfl rfl) rfl rfl hl.1 rfl (lv_room (Nat.le_of_ble_eq_true rfl)) dX7_digest_86 ⟨Nat.le_of_ble_eq_true rfl, Nat.le_of_ble_eq_true rfl⟩) hA hP hD hS [8, 9] [0, 1, 2, 3, 4, 5, 6, 7, 10, 11, 12, 13, 14, 15] rfl rfl (by decide) (by decide) (fun r_14 u_r_14 H locs wr_14 hP hD hS => ?_)
                      have hP : va_P D vwCl [(h0, .inr (7, [.ref aS, .ref aA, .ref aU, .ref aX, .ref aW, .int pl, .int np, .int li, .int sw, .int lst, .long ad])), (aS, .inr (3, [.ref bS])), (bS, .inl (cI, 512, .inl f)), (aA, .inr (0, [.int sA, .long zA, .int sM, .long zM, .int vO])), (t0, .inr (4, [.ref i0, .int n0, .int p0])), (i0, .inl (cL, 300, .inr (.inl f0))), (t1, .inr (4, [.ref i1, .int n1, .int p1])), (i1, .inl (cL, 300, .inr (.inl f1))), (t3, .inr (4, [.ref i3, .int n3, .int p3])), (i3, .inl (cL, 300, .inr (.inl f3))), (aD, .inr (1, [.ref bD, .int dp])), (bD, .inl (cL, 256, .inr (.inl fd))), (aU, .inr (6, [.ref bT, .ref aD, .int ch, .int ww])), (bT, .inl (cT, 4, .inr (.inr (.inr (.inr (k4 t0 t1 t2 t3)))))), (t2, .inr (4, [.ref i2, .int n2, .int p2])), (i2, .inl (cL, 300, .inr (.inl f2)))] H := hP
                      have hD : va_D A [(h0, .inr (7, [.ref aS, .ref aA, .ref aU, .ref aX, .ref aW, .int pl, .int np, .int li, .int sw, .int lst, .long ad])), (aS, .inr (3, [.ref bS])), (bS, .inl (cI, 512, .inl f)), (aA, .inr (0, [.int sA, .long zA, .int sM, .long zM, .int vO])), (t0, .inr (4, [.ref i0, .int n0, .int p0])), (i0, .inl (cL, 300, .inr (.inl f0))), (t1, .inr (4, [.ref i1, .int n1, .int p1])), (i1, .inl (cL, 300, .inr (.inl f1))), (t3, .inr (4, [.ref i3, .int n3, .int p3])), (i3, .inl (cL, 300, .inr (.inl f3))), (aD, .inr (1, [.ref bD, .int dp])), (bD, .inl (cL, 256, .inr (.inl fd))), (aU, .inr (6, [.ref bT, .ref aD, .int ch, .int ww])), (bT, .inl (cT, 4, .inr (.inr (.inr (.inr (k4 t0 t1 t2 t3)))))), (t2, .inr (4, [.ref i2, .int n2, .int p2])), (i2, .inl (cL, 300, .inr (.inl f2)))] := hD
                      try dsimp only at wr_14
                      refine lv_lstore_n (lv' := [(1, .long r_14), (4, .ref t2), (3, .int j), (0, .ref h0)]) hx hb dX7_digest_89 rfl hl (by decide) rfl (fun ls hl => ?_)
                      obtain ⟨x_15, ex_15⟩ : ∃ y : Int32, y = j + 1 := ⟨_, rfl⟩
                      refine lv_iinc (v := x_15) (lv' := [(3, .int x_15), (1, .long r_14), (4, .ref t2), (0, .ref h0)]) hx hb dX7_digest_90 hl (k := 2) rfl (by rw [ex_15]; rfl) (by decide) rfl (fun ls hl => ?_)
                      refine lv_goto (tgt := 63) hx hb dX7_digest_93 (by decide) ?_
                      have hz0 : (4 : Int32).toInt = 4 := by decide
                      have hd := k_inc (i := j) (n := 4) (by omega)
                      rw [← ex_15] at hd
                      exact ih x_15 r_14 (by omega)  _ _ (hP.sub [0, 1, 2, 3, 12, 13, 4, 5, 6, 7, 14, 15, 8, 9, 10, 11] rfl) (hD.sub [0, 1, 2, 3, 12, 13, 4, 5, 6, 7, 14, 15, 8, 9, 10, 11] (by decide) rfl) hS ls (lv_sub hl [0, 1, 3] rfl)
                    · show W _ _ _ _ _ _ _ _ _ _ _ _ _ _ _ (F0 _ _ _ (Value.ref t3 :: _))
                      refine lv_astore (lv' := [(4, .ref t3), (3, .int j), (1, .long h), (0, .ref h0)]) hx hb dX7_digest_76 hl (by decide) rfl (fun ls hl => ?_)
                      refine lv_aload hx hb dX7_digest_78 (lv_at hl 0 rfl) ?_
                      refine lv_ifnull hx hb dX7_digest_80 ?_
                      refine lv_aload hx hb dX7_digest_83 (lv_at hl 0 rfl) ?_
                      refine lv_lload_n hx hb dX7_digest_85 rfl (lv_at hl 2 rfl) ?_
                      refine kCallL (wr := [(h0, .inr (7, [.ref aS, .ref aA, .ref aU, .ref aX, .ref aW, .int pl, .int np, .int li, .int sw, .int lst, .long ad])), (aS, .inr (3, [.ref bS])), (bS, .inl (cI, 512, .inl f)), (aA, .inr (0, [.int sA, .long zA, .int sM, .long zM, .int vO])), (t0, .inr (4, [.ref i0, .int n0, .int p0])), (i0, .inl (cL, 300, .inr (.inl f0))), (t1, .inr (4, [.ref i1, .int n1, .int p1])), (i1, .inl (cL, 300, .inr (.inl f1))), (t2, .inr (4, [.ref i2, .int n2, .int p2])), (i2, .inl (cL, 300, .inr (.inl f2))), (aD, .inr (1, [.ref bD, .int dp])), (bD, .inl (cL, 256, .inr (.inl fd))), (aU, .inr (6, [.ref bT, .ref aD, .int ch, .int ww])), (bT, .inl (cT, 4, .inr (.inr (.inr (.inr (k4 t0 t1 t2 t3))))))]) (va_runV (As := [.long h]) (rest := []) ⟨hx, hb, hml, hown, hts⟩ (g_digestOnto l D cI cL cB cZ cT _ t3 i3 n3 p3 f3 h) (cwV 1 hts gX7_digest_X4_digestOnto rfl rfl rfl (by decide +kernel) ⟨Nat.le_of_ble_eq_true rfl, Nat.le_of_ble_eq_true rfl⟩) (kPreV hG hP hD [10, 11] rfl (by decide) 0 4 rfl rfl rfl) rfl rfl hl.1 rfl (lv_room (Nat.le_of_ble_eq_true rfl)) dX7_digest_86 ⟨Nat.le_of_ble_eq_true rfl, Nat.le_of_ble_eq_true rfl⟩) hA hP hD hS [10, 11] [0, 1, 2, 3, 4, 5, 6, 7, 8, 9, 12, 13, 14, 15] rfl rfl (by decide) (by decide) (fun r_16 u_r_16 H locs wr_16 hP hD hS => ?_)
                      have hP : va_P D vwCl [(h0, .inr (7, [.ref aS, .ref aA, .ref aU, .ref aX, .ref aW, .int pl, .int np, .int li, .int sw, .int lst, .long ad])), (aS, .inr (3, [.ref bS])), (bS, .inl (cI, 512, .inl f)), (aA, .inr (0, [.int sA, .long zA, .int sM, .long zM, .int vO])), (t0, .inr (4, [.ref i0, .int n0, .int p0])), (i0, .inl (cL, 300, .inr (.inl f0))), (t1, .inr (4, [.ref i1, .int n1, .int p1])), (i1, .inl (cL, 300, .inr (.inl f1))), (t2, .inr (4, [.ref i2, .int n2, .int p2])), (i2, .inl (cL, 300, .inr (.inl f2))), (aD, .inr (1, [.ref bD, .int dp])), (bD, .inl (cL, 256, .inr (.inl fd))), (aU, .inr (6, [.ref bT, .ref aD, .int ch, .int ww])), (bT, .inl (cT, 4, .inr (.inr (.inr (.inr (k4 t0 t1 t2 t3)))))), (t3, .inr (4, [.ref i3, .int n3, .int p3])), (i3, .inl (cL, 300, .inr (.inl f3)))] H := hP
                      have hD : va_D A [(h0, .inr (7, [.ref aS, .ref aA, .ref aU, .ref aX, .ref aW, .int pl, .int np, .int li, .int sw, .int lst, .long ad])), (aS, .inr (3, [.ref bS])), (bS, .inl (cI, 512, .inl f)), (aA, .inr (0, [.int sA, .long zA, .int sM, .long zM, .int vO])), (t0, .inr (4, [.ref i0, .int n0, .int p0])), (i0, .inl (cL, 300, .inr (.inl f0))), (t1, .inr (4, [.ref i1, .int n1, .int p1])), (i1, .inl (cL, 300, .inr (.inl f1))), (t2, .inr (4, [.ref i2, .int n2, .int p2])), (i2, .inl (cL, 300, .inr (.inl f2))), (aD, .inr (1, [.ref bD, .int dp])), (bD, .inl (cL, 256, .inr (.inl fd))), (aU, .inr (6, [.ref bT, .ref aD, .int ch, .int ww])), (bT, .inl (cT, 4, .inr (.inr (.inr (.inr (k4 t0 t1 t2 t3)))))), (t3, .inr (4, [.ref i3, .int n3, .int p3])), (i3, .inl (cL, 300, .inr (.inl f3)))] := hD
                      try dsimp only at wr_16
                      refine lv_lstore_n (lv' := [(1, .long r_16), (4, .ref t3), (3, .int j), (0, .ref h0)]) hx hb dX7_digest_89 rfl hl (by decide) rfl (fun ls hl => ?_)
                      obtain ⟨x_17, ex_17⟩ : ∃ y : Int32, y = j + 1 := ⟨_, rfl⟩
                      refine lv_iinc (v := x_17) (lv' := [(3, .int x_17), (1, .long r_16), (4, .ref t3), (0, .ref h0)]) hx hb dX7_digest_90 hl (k := 2) rfl (by rw [ex_17]; rfl) (by decide) rfl (fun ls hl => ?_)
                      refine lv_goto (tgt := 63) hx hb dX7_digest_93 (by decide) ?_
                      have hz0 : (4 : Int32).toInt = 4 := by decide
                      have hd := k_inc (i := j) (n := 4) (by omega)
                      rw [← ex_17] at hd
                      exact ih x_17 r_16 (by omega)  _ _ (hP.sub [0, 1, 2, 3, 12, 13, 4, 5, 6, 7, 8, 9, 14, 15, 10, 11] rfl) (hD.sub [0, 1, 2, 3, 12, 13, 4, 5, 6, 7, 8, 9, 14, 15, 10, 11] (by decide) rfl) hS ls (lv_sub hl [0, 1, 3] rfl)
              exact J63 _ 0 h (Nat.lt_succ_self _)  _ _ (hP.sub [0, 1, 2, 3, 4, 5, 6, 7, 8, 9, 10, 11, 12, 13, 14, 15] rfl) (hD.sub [0, 1, 2, 3, 4, 5, 6, 7, 8, 9, 10, 11, 12, 13, 14, 15] (by decide) rfl) hS ls (lv_sub hl [0, 1, 2] rfl)
            · have t_40_1 := c_40_1
              try simp only [kb_eq0, kb_ne0, lg_cmp_lt, lg_cmp_le, lg_cmp_gt, lg_cmp_ge, lg_cmp_eq] at t_40_1
              try simp only [Int32.lt_iff_toInt_lt, Int32.le_iff_toInt_le, ← Int32.toInt_inj, Int64.lt_iff_toInt_lt, Int64.le_iff_toInt_le, ← Int64.toInt_inj, Int32.toInt_toInt64, Int32.reduceToInt, Int64.reduceToInt] at t_40_1
              refine lv_ldc2 (v := 31) hx hb hown (hts (.constantLong RX7 169 (31)) (List.mem_of_getElem? (i := 2) rfl)) dX7_digest_43 ?_
              refine lv_lload_n hx hb dX7_digest_46 rfl (lv_at hl 1 rfl) ?_
              refine lv_lmul hx hb dX7_digest_47 ?_
              refine lv_aload_n hx hb dX7_digest_48 rfl (lv_at hl 2 rfl) ?_
              refine lv_iload_n hx hb dX7_digest_49 rfl (lv_at hl 0 rfl) ?_
              refine kCallL (wr := [(aS, .inr (3, [.ref bS])), (bS, .inl (cI, 512, .inl f)), (bT, .inl (cT, 4, .inr (.inr (.inr (.inr (k4 t0 t1 t2 t3)))))), (t0, .inr (4, [.ref i0, .int n0, .int p0])), (i0, .inl (cL, 300, .inr (.inl f0))), (t1, .inr (4, [.ref i1, .int n1, .int p1])), (i1, .inl (cL, 300, .inr (.inl f1))), (t2, .inr (4, [.ref i2, .int n2, .int p2])), (i2, .inl (cL, 300, .inr (.inl f2))), (t3, .inr (4, [.ref i3, .int n3, .int p3])), (i3, .inl (cL, 300, .inr (.inl f3))), (bD, .inl (cL, 256, .inr (.inl fd)))]) (va_runV (As := [.int j]) (rest := [.long (31 * h)]) ⟨hx, hb, hml, hown, hts⟩ (g_told l D cI cL cB cZ cT _ h0 aS aA aU aX aW pl np li sw lst ad sA zA sM zM vO bT aD ch ww bD dp j) (cwV 1 hts gX7_digest_X7_told rfl rfl rfl (by decide +kernel) ⟨Nat.le_of_ble_eq_true rfl, Nat.le_of_ble_eq_true rfl⟩) (kPreV hG hP hD [0, 3, 4, 14] rfl (by decide) 0 7 rfl rfl rfl) rfl rfl hl.1 rfl (lv_room (Nat.le_of_ble_eq_true rfl)) dX7_digest_50 ⟨Nat.le_of_ble_eq_true rfl, Nat.le_of_ble_eq_true rfl⟩) hA hP hD hS [0, 3, 4, 14] [1, 2, 5, 6, 7, 8, 9, 10, 11, 12, 13, 15] rfl rfl (by decide) (by decide) (fun r_18 u_r_18 H locs wr_18 hP hD hS => ?_)
              have hP : va_P D vwCl [(aS, .inr (3, [.ref bS])), (bS, .inl (cI, 512, .inl f)), (bT, .inl (cT, 4, .inr (.inr (.inr (.inr (k4 t0 t1 t2 t3)))))), (t0, .inr (4, [.ref i0, .int n0, .int p0])), (i0, .inl (cL, 300, .inr (.inl f0))), (t1, .inr (4, [.ref i1, .int n1, .int p1])), (i1, .inl (cL, 300, .inr (.inl f1))), (t2, .inr (4, [.ref i2, .int n2, .int p2])), (i2, .inl (cL, 300, .inr (.inl f2))), (t3, .inr (4, [.ref i3, .int n3, .int p3])), (i3, .inl (cL, 300, .inr (.inl f3))), (bD, .inl (cL, 256, .inr (.inl fd))), (h0, .inr (7, [.ref aS, .ref aA, .ref aU, .ref aX, .ref aW, .int pl, .int np, .int li, .int sw, .int lst, .long ad])), (aA, .inr (0, [.int sA, .long zA, .int sM, .long zM, .int vO])), (aU, .inr (6, [.ref bT, .ref aD, .int ch, .int ww])), (aD, .inr (1, [.ref bD, .int dp]))] H := hP
              have hD : va_D A [(aS, .inr (3, [.ref bS])), (bS, .inl (cI, 512, .inl f)), (bT, .inl (cT, 4, .inr (.inr (.inr (.inr (k4 t0 t1 t2 t3)))))), (t0, .inr (4, [.ref i0, .int n0, .int p0])), (i0, .inl (cL, 300, .inr (.inl f0))), (t1, .inr (4, [.ref i1, .int n1, .int p1])), (i1, .inl (cL, 300, .inr (.inl f1))), (t2, .inr (4, [.ref i2, .int n2, .int p2])), (i2, .inl (cL, 300, .inr (.inl f2))), (t3, .inr (4, [.ref i3, .int n3, .int p3])), (i3, .inl (cL, 300, .inr (.inl f3))), (bD, .inl (cL, 256, .inr (.inl fd))), (h0, .inr (7, [.ref aS, .ref aA, .ref aU, .ref aX, .ref aW, .int pl, .int np, .int li, .int sw, .int lst, .long ad])), (aA, .inr (0, [.int sA, .long zA, .int sM, .long zM, .int vO])), (aU, .inr (6, [.ref bT, .ref aD, .int ch, .int ww])), (aD, .inr (1, [.ref bD, .int dp]))] := hD
              try dsimp only at wr_18
              refine lv_ladd hx hb dX7_digest_53 ?_
              refine lv_topl (fun x_19 ex_19 => ?_)
              refine lv_lstore_n (lv' := [(1, .long x_19), (3, .int j), (0, .ref h0)]) hx hb dX7_digest_54 rfl hl (by decide) rfl (fun ls hl => ?_)
              obtain ⟨x_20, ex_20⟩ : ∃ y : Int32, y = j + 1 := ⟨_, rfl⟩
              refine lv_iinc (v := x_20) (lv' := [(3, .int x_20), (1, .long x_19), (0, .ref h0)]) hx hb dX7_digest_55 hl (k := 1) rfl (by rw [ex_20]; rfl) (by decide) rfl (fun ls hl => ?_)
              refine lv_goto (tgt := 37) hx hb dX7_digest_58 (by decide) ?_
              have hz0 : (10 : Int32).toInt = 10 := by decide
              have hd := k_inc (i := j) (n := 10) (by omega)
              rw [← ex_20] at hd
              exact ih x_20 x_19 (by omega)  _ _ (hP.sub [12, 0, 1, 13, 14, 2, 3, 4, 5, 6, 7, 8, 9, 10, 15, 11] rfl) (hD.sub [12, 0, 1, 13, 14, 2, 3, 4, 5, 6, 7, 8, 9, 10, 15, 11] (by decide) rfl) hS ls (lv_sub hl [0, 1, 2] rfl)
        exact J37 _ 0 h (Nat.lt_succ_self _)  _ _ (hP.sub [0, 1, 2, 3, 4, 5, 6, 7, 8, 9, 10, 11, 12, 13, 14, 15] rfl) (hD.sub [0, 1, 2, 3, 4, 5, 6, 7, 8, 9, 10, 11, 12, 13, 14, 15] (by decide) rfl) hS ls (lv_sub hl [0, 1, 2] rfl)
      · have t_10_0 := c_10_0
        try simp only [kb_eq0, kb_ne0, lg_cmp_lt, lg_cmp_le, lg_cmp_gt, lg_cmp_ge, lg_cmp_eq] at t_10_0
        try simp only [Int32.lt_iff_toInt_lt, Int32.le_iff_toInt_le, ← Int32.toInt_inj, Int64.lt_iff_toInt_lt, Int64.le_iff_toInt_le, ← Int64.toInt_inj, Int32.toInt_toInt64, Int32.reduceToInt, Int64.reduceToInt] at t_10_0
        refine lv_ldc2 (v := 31) hx hb hown (hts (.constantLong RX7 169 (31)) (List.mem_of_getElem? (i := 2) rfl)) dX7_digest_13 ?_
        refine lv_lload_n hx hb dX7_digest_16 rfl (lv_at hl 1 rfl) ?_
        refine lv_lmul hx hb dX7_digest_17 ?_
        refine lv_aload_n hx hb dX7_digest_18 rfl (lv_at hl 2 rfl) ?_
        refine va_get (D := D) (ci := 7) (v := .ref aS) (C := RX7) (T := TX7) (N := 11) hx hb hts iX7_digest_X7 hown hK hP 0 rfl rfl 0 (by decide) (hts (.fieldLink RX7 12 "TapeCalculator" "store" "LTapeCalculator$Store;") (List.mem_of_getElem? (i := 3) rfl)) (fun _ h9 => h9) rfl dX7_digest_19 ?_
        refine lv_iload_n hx hb dX7_digest_22 rfl (lv_at hl 0 rfl) ?_
        refine kCallI (wr := [(h0, .inr (7, [.ref aS, .ref aA, .ref aU, .ref aX, .ref aW, .int pl, .int np, .int li, .int sw, .int lst, .long ad])), (aA, .inr (0, [.int sA, .long zA, .int sM, .long zM, .int vO])), (aU, .inr (6, [.ref bT, .ref aD, .int ch, .int ww])), (bT, .inl (cT, 4, .inr (.inr (.inr (.inr (k4 t0 t1 t2 t3)))))), (t0, .inr (4, [.ref i0, .int n0, .int p0])), (i0, .inl (cL, 300, .inr (.inl f0))), (t1, .inr (4, [.ref i1, .int n1, .int p1])), (i1, .inl (cL, 300, .inr (.inl f1))), (t2, .inr (4, [.ref i2, .int n2, .int p2])), (i2, .inl (cL, 300, .inr (.inl f2))), (t3, .inr (4, [.ref i3, .int n3, .int p3])), (i3, .inl (cL, 300, .inr (.inl f3))), (aD, .inr (1, [.ref bD, .int dp])), (bD, .inl (cL, 256, .inr (.inl fd)))]) (va_runV (As := [.int j]) (rest := [.long (31 * h)]) ⟨hx, hb, hml, hown, hts⟩ (g_halfAt l D cI cL cB cZ cT _ aS bS f j) (cwV 1 hts gX7_digest_X3_halfAt rfl rfl rfl (by decide +kernel) ⟨Nat.le_of_ble_eq_true rfl, Nat.le_of_ble_eq_true rfl⟩) (kPreV hG hP hD [1, 2] rfl (by decide) 0 3 rfl rfl rfl) rfl rfl hl.1 rfl (lv_room (Nat.le_of_ble_eq_true rfl)) dX7_digest_23 ⟨Nat.le_of_ble_eq_true rfl, Nat.le_of_ble_eq_true rfl⟩) hA hP hD hS [1, 2] [0, 3, 4, 5, 6, 7, 8, 9, 10, 11, 12, 13, 14, 15] rfl rfl (by decide) (by decide) (fun r_21 u_r_21 H locs wr_21 hP hD hS => ?_)
        have hP : va_P D vwCl [(h0, .inr (7, [.ref aS, .ref aA, .ref aU, .ref aX, .ref aW, .int pl, .int np, .int li, .int sw, .int lst, .long ad])), (aA, .inr (0, [.int sA, .long zA, .int sM, .long zM, .int vO])), (aU, .inr (6, [.ref bT, .ref aD, .int ch, .int ww])), (bT, .inl (cT, 4, .inr (.inr (.inr (.inr (k4 t0 t1 t2 t3)))))), (t0, .inr (4, [.ref i0, .int n0, .int p0])), (i0, .inl (cL, 300, .inr (.inl f0))), (t1, .inr (4, [.ref i1, .int n1, .int p1])), (i1, .inl (cL, 300, .inr (.inl f1))), (t2, .inr (4, [.ref i2, .int n2, .int p2])), (i2, .inl (cL, 300, .inr (.inl f2))), (t3, .inr (4, [.ref i3, .int n3, .int p3])), (i3, .inl (cL, 300, .inr (.inl f3))), (aD, .inr (1, [.ref bD, .int dp])), (bD, .inl (cL, 256, .inr (.inl fd))), (aS, .inr (3, [.ref bS])), (bS, .inl (cI, 512, .inl f))] H := hP
        have hD : va_D A [(h0, .inr (7, [.ref aS, .ref aA, .ref aU, .ref aX, .ref aW, .int pl, .int np, .int li, .int sw, .int lst, .long ad])), (aA, .inr (0, [.int sA, .long zA, .int sM, .long zM, .int vO])), (aU, .inr (6, [.ref bT, .ref aD, .int ch, .int ww])), (bT, .inl (cT, 4, .inr (.inr (.inr (.inr (k4 t0 t1 t2 t3)))))), (t0, .inr (4, [.ref i0, .int n0, .int p0])), (i0, .inl (cL, 300, .inr (.inl f0))), (t1, .inr (4, [.ref i1, .int n1, .int p1])), (i1, .inl (cL, 300, .inr (.inl f1))), (t2, .inr (4, [.ref i2, .int n2, .int p2])), (i2, .inl (cL, 300, .inr (.inl f2))), (t3, .inr (4, [.ref i3, .int n3, .int p3])), (i3, .inl (cL, 300, .inr (.inl f3))), (aD, .inr (1, [.ref bD, .int dp])), (bD, .inl (cL, 256, .inr (.inl fd))), (aS, .inr (3, [.ref bS])), (bS, .inl (cI, 512, .inl f))] := hD
        try dsimp only at wr_21
        refine lv_i2l hx hb dX7_digest_26 rfl ?_
        refine lv_ladd hx hb dX7_digest_27 ?_
        refine lv_topl (fun x_22 ex_22 => ?_)
        refine lv_lstore_n (lv' := [(1, .long x_22), (3, .int j), (0, .ref h0)]) hx hb dX7_digest_28 rfl hl (by decide) rfl (fun ls hl => ?_)
        obtain ⟨x_23, ex_23⟩ : ∃ y : Int32, y = j + 1 := ⟨_, rfl⟩
        refine lv_iinc (v := x_23) (lv' := [(3, .int x_23), (1, .long x_22), (0, .ref h0)]) hx hb dX7_digest_29 hl (k := 1) rfl (by rw [ex_23]; rfl) (by decide) rfl (fun ls hl => ?_)
        refine lv_goto (tgt := 6) hx hb dX7_digest_32 (by decide) ?_
        have hz0 : (512 : Int32).toInt = 512 := by decide
        have hd := k_inc (i := j) (n := 512) (by omega)
        rw [← ex_23] at hd
        exact ih x_23 x_22 (by omega)  _ _ (hP.sub [0, 14, 15, 1, 2, 3, 4, 5, 6, 7, 8, 9, 10, 11, 12, 13] rfl) (hD.sub [0, 14, 15, 1, 2, 3, 4, 5, 6, 7, 8, 9, 10, 11, 12, 13] (by decide) rfl) hS ls (lv_sub hl [0, 1, 2] rfl)
  exact J6 _ 0 17 (Nat.lt_succ_self _)  _ _ (hP.sub [0, 1, 2, 3, 4, 5, 6, 7, 8, 9, 10, 11, 12, 13, 14, 15] rfl) (hD.sub [0, 1, 2, 3, 4, 5, 6, 7, 8, 9, 10, 11, 12, 13, 14, 15] (by decide) rfl) hS ls (lv_sub hl [0, 1, 2] rfl)
