set_option maxRecDepth 100000 in
theorem iX8_set_X8 : ∀ w ∈ wsX80, w ∈ wsX8_set := fun w h => (goodIn_r (big := wsX8_set) wsX80 [15, 16, 17, 18, 19, 20, 21, 22, 23, 24, 25, 26, 27, 28, 29, 30, 31, 32, 33, 34, 35, 36, 37, 38, 39, 40, 41, 42, 43, 44, 45] rfl (by decide +kernel) w h).1
set_option maxRecDepth 100000 in
set_option maxHeartbeats 4000000 in
theorem r_set (l : Launch) (D : va_G) (cI cL cB cZ cT : ClassId) (sz : Nat) (m0 mH mI mJ mS mD mX mA mB mW mL : Nat) (w : Int32) (v : Int64) : kM (S := (Int32 × Int64 × Int32 × Int64 × Int32 × Int32)) l yX8_set wsX8_set ({ frames := 1, cells := 0, slots := 0, locals := 25 }) D (kT cI cL cB cZ cT) [.ref m0, .int w, .long v] [(m0, .inr (8, [.ref mH, .int 0, .long 0, .int 0, .long 0, .int 0, .int 0, .int 0, .int 0, .int 0, .int 0, .long 0, .int 0, .int 0, .ref mI, .ref mJ, .ref mS, .ref mD, .int 0, .int 0, .int 0, .long 0, .ref mX, .int 0, .int 0, .int 0, .ref mA, .ref mB, .ref mW, .ref mL, .int 0]))] sz eI (fun r _ => r = (kif (0 ≤ v.toInt ∧ v.toInt ≤ (kMost w).toInt) 1 (-1))) (fun u => [(m0, .inr (8, [.ref mH, .int u.1, .long u.2.1, .int u.2.2.1, .long u.2.2.2.1, .int u.2.2.2.2.1, .int u.2.2.2.2.2, .int 0, .int 0, .int 0, .int 0, .long 0, .int 0, .int 0, .ref mI, .ref mJ, .ref mS, .ref mD, .int 0, .int 0, .int 0, .long 0, .ref mX, .int 0, .int 0, .int 0, .ref mA, .ref mB, .ref mW, .ref mL, .int 0]))]) 0 0 := by
  refine kStart (cc := cX8_set) (maxL := 6) (ret := (some .int)) (own := RX8) (by decide) rfl rfl (Nat.le_of_ble_eq_true rfl) ?_
  intro p e s m args below meth c A ls hx hb hr hml hown hts hlocks hnm hsz hA hG hP hD hS hl
  have hK := hG.1
  have hl : lv_has ls 6 [(0, .ref m0), (1, .int w), (2, .long v)] := hl
  rcases ksw_0_5 w with hsw | rfl | rfl | rfl | rfl | rfl | rfl
  · refine lv_iload_n hx hb dX8_set_0 rfl (lv_at hl 1 rfl) ?_
    refine lv_if_eq (tgt := 14) hx hb dX8_set_1 (by decide) (fun c_1_0 => ?_) (fun c_1_0 => ?_)
    · have t_1_0 := c_1_0
      try simp only [kb_eq0, kb_ne0, lg_cmp_lt, lg_cmp_le, lg_cmp_gt, lg_cmp_ge, lg_cmp_eq] at t_1_0
      try simp only [Int32.lt_iff_toInt_lt, Int32.le_iff_toInt_le, ← Int32.toInt_inj, Int64.lt_iff_toInt_lt, Int64.le_iff_toInt_le, ← Int64.toInt_inj, Int32.toInt_toInt64, Int32.reduceToInt, Int64.reduceToInt] at t_1_0
      refine lv_lconst (v := 1) hx hb dX8_set_14 (by decide) ?_
      refine lv_goto (tgt := 43) hx hb dX8_set_15 (by decide) ?_
      refine lv_lstore (lv' := [(4, .long 1), (0, .ref m0), (1, .int w), (2, .long v)]) hx hb dX8_set_43 hl (by decide) rfl (fun ls hl => ?_)
      refine lv_iload_n hx hb dX8_set_45 rfl (lv_at hl 2 rfl) ?_
      refine lv_i2l hx hb dX8_set_46 rfl ?_
      refine lv_lconst (v := 0) hx hb dX8_set_47 (by decide) ?_
      refine lv_ldc2 (v := 5) hx hb hown (hts (.constantLong RX8 94 (5)) (List.mem_of_getElem? (i := 4) rfl)) dX8_set_48 ?_
      refine kCallI (wr := [(m0, .inr (8, [.ref mH, .int 0, .long 0, .int 0, .long 0, .int 0, .int 0, .int 0, .int 0, .int 0, .int 0, .long 0, .int 0, .int 0, .ref mI, .ref mJ, .ref mS, .ref mD, .int 0, .int 0, .int 0, .long 0, .ref mX, .int 0, .int 0, .int 0, .ref mA, .ref mB, .ref mW, .ref mL, .int 0]))]) (va_runS (As := [.long w.toInt64, .long 0, .long 5]) (rest := []) ⟨hx, hb, hml, hown, hts⟩ (r_in l D cI cL cB cZ cT _ (w.toInt64) 0 5) (va_cwS 3 hts gX8_set_X8_in rfl rfl rfl (by decide +kernel) ⟨Nat.le_of_ble_eq_true rfl, Nat.le_of_ble_eq_true rfl⟩) (kPreS hG hP hD [] rfl (by decide)) rfl rfl hl.1 rfl (lv_room (Nat.le_of_ble_eq_true rfl)) dX8_set_51 ⟨Nat.le_of_ble_eq_true rfl, Nat.le_of_ble_eq_true rfl⟩) hA hP hD hS [] [0] rfl rfl (by decide) (by decide) (fun r_2 u_r_2 H locs wr_2 hP hD hS => ?_)
      have hP : va_P D vwCl [(m0, .inr (8, [.ref mH, .int 0, .long 0, .int 0, .long 0, .int 0, .int 0, .int 0, .int 0, .int 0, .int 0, .long 0, .int 0, .int 0, .ref mI, .ref mJ, .ref mS, .ref mD, .int 0, .int 0, .int 0, .long 0, .ref mX, .int 0, .int 0, .int 0, .ref mA, .ref mB, .ref mW, .ref mL, .int 0]))] H := hP
      have hD : va_D A [(m0, .inr (8, [.ref mH, .int 0, .long 0, .int 0, .long 0, .int 0, .int 0, .int 0, .int 0, .int 0, .int 0, .long 0, .int 0, .int 0, .ref mI, .ref mJ, .ref mS, .ref mD, .int 0, .int 0, .int 0, .long 0, .ref mX, .int 0, .int 0, .int 0, .ref mA, .ref mB, .ref mW, .ref mL, .int 0]))] := hD
      try dsimp only at wr_2
      subst wr_2
      refine lv_if_eq (tgt := 67) hx hb dX8_set_54 (by decide) (fun c_54_2 => ?_) (fun c_54_2 => ?_)
      · have t_54_2 := c_54_2
        try simp only [kb_eq0, kb_ne0, lg_cmp_lt, lg_cmp_le, lg_cmp_gt, lg_cmp_ge, lg_cmp_eq] at t_54_2
        try simp only [Int32.lt_iff_toInt_lt, Int32.le_iff_toInt_le, ← Int32.toInt_inj, Int64.lt_iff_toInt_lt, Int64.le_iff_toInt_le, ← Int64.toInt_inj, Int32.toInt_toInt64, Int32.reduceToInt, Int64.reduceToInt] at t_54_2
        refine lv_iconst (v := (-1)) hx hb dX8_set_67 (by decide) ?_
        refine kIret (u := (0, 0, 0, 0, 0, 0)) hx hb hr rfl hlocks hS dX8_set_68 ?_ (hP.sub [0] rfl) (hD.sub [0] (by decide) rfl)
        have hm := congrArg Int64.toInt (kMost_out hsw)
        simp only [Int64.reduceToInt] at hm
        first
          | exact (kif_t (by omega)).symm
          | exact (kif_f (by omega)).symm
      · have t_54_2 := c_54_2
        try simp only [kb_eq0, kb_ne0, lg_cmp_lt, lg_cmp_le, lg_cmp_gt, lg_cmp_ge, lg_cmp_eq] at t_54_2
        try simp only [Int32.lt_iff_toInt_lt, Int32.le_iff_toInt_le, ← Int32.toInt_inj, Int64.lt_iff_toInt_lt, Int64.le_iff_toInt_le, ← Int64.toInt_inj, Int32.toInt_toInt64, Int32.reduceToInt, Int64.reduceToInt] at t_54_2
        omega
    · have t_1_0 := c_1_0
      try simp only [kb_eq0, kb_ne0, lg_cmp_lt, lg_cmp_le, lg_cmp_gt, lg_cmp_ge, lg_cmp_eq] at t_1_0
      try simp only [Int32.lt_iff_toInt_lt, Int32.le_iff_toInt_le, ← Int32.toInt_inj, Int64.lt_iff_toInt_lt, Int64.le_iff_toInt_le, ← Int64.toInt_inj, Int32.toInt_toInt64, Int32.reduceToInt, Int64.reduceToInt] at t_1_0
      refine lv_iload_n hx hb dX8_set_4 rfl (lv_at hl 1 rfl) ?_
      refine lv_iconst (v := 2) hx hb dX8_set_5 (by decide) ?_
      refine lv_icmp_eq (tgt := 14) hx hb dX8_set_6 (by decide) (fun c_6_3 => ?_) (fun c_6_3 => ?_)
      · have t_6_3 := c_6_3
        try simp only [kb_eq0, kb_ne0, lg_cmp_lt, lg_cmp_le, lg_cmp_gt, lg_cmp_ge, lg_cmp_eq] at t_6_3
        try simp only [Int32.lt_iff_toInt_lt, Int32.le_iff_toInt_le, ← Int32.toInt_inj, Int64.lt_iff_toInt_lt, Int64.le_iff_toInt_le, ← Int64.toInt_inj, Int32.toInt_toInt64, Int32.reduceToInt, Int64.reduceToInt] at t_6_3
        refine lv_lconst (v := 1) hx hb dX8_set_14 (by decide) ?_
        refine lv_goto (tgt := 43) hx hb dX8_set_15 (by decide) ?_
        refine lv_lstore (lv' := [(4, .long 1), (0, .ref m0), (1, .int w), (2, .long v)]) hx hb dX8_set_43 hl (by decide) rfl (fun ls hl => ?_)
        refine lv_iload_n hx hb dX8_set_45 rfl (lv_at hl 2 rfl) ?_
        refine lv_i2l hx hb dX8_set_46 rfl ?_
        refine lv_lconst (v := 0) hx hb dX8_set_47 (by decide) ?_
        refine lv_ldc2 (v := 5) hx hb hown (hts (.constantLong RX8 94 (5)) (List.mem_of_getElem? (i := 4) rfl)) dX8_set_48 ?_
        refine kCallI (wr := [(m0, .inr (8, [.ref mH, .int 0, .long 0, .int 0, .long 0, .int 0, .int 0, .int 0, .int 0, .int 0, .int 0, .long 0, .int 0, .int 0, .ref mI, .ref mJ, .ref mS, .ref mD, .int 0, .int 0, .int 0, .long 0, .ref mX, .int 0, .int 0, .int 0, .ref mA, .ref mB, .ref mW, .ref mL, .int 0]))]) (va_runS (As := [.long w.toInt64, .long 0, .long 5]) (rest := []) ⟨hx, hb, hml, hown, hts⟩ (r_in l D cI cL cB cZ cT _ (w.toInt64) 0 5) (va_cwS 3 hts gX8_set_X8_in rfl rfl rfl (by decide +kernel) ⟨Nat.le_of_ble_eq_true rfl, Nat.le_of_ble_eq_true rfl⟩) (kPreS hG hP hD [] rfl (by decide)) rfl rfl hl.1 rfl (lv_room (Nat.le_of_ble_eq_true rfl)) dX8_set_51 ⟨Nat.le_of_ble_eq_true rfl, Nat.le_of_ble_eq_true rfl⟩) hA hP hD hS [] [0] rfl rfl (by decide) (by decide) (fun r_5 u_r_5 H locs wr_5 hP hD hS => ?_)
        have hP : va_P D vwCl [(m0, .inr (8, [.ref mH, .int 0, .long 0, .int 0, .long 0, .int 0, .int 0, .int 0, .int 0, .int 0, .int 0, .long 0, .int 0, .int 0, .ref mI, .ref mJ, .ref mS, .ref mD, .int 0, .int 0, .int 0, .long 0, .ref mX, .int 0, .int 0, .int 0, .ref mA, .ref mB, .ref mW, .ref mL, .int 0]))] H := hP
        have hD : va_D A [(m0, .inr (8, [.ref mH, .int 0, .long 0, .int 0, .long 0, .int 0, .int 0, .int 0, .int 0, .int 0, .int 0, .long 0, .int 0, .int 0, .ref mI, .ref mJ, .ref mS, .ref mD, .int 0, .int 0, .int 0, .long 0, .ref mX, .int 0, .int 0, .int 0, .ref mA, .ref mB, .ref mW, .ref mL, .int 0]))] := hD
        try dsimp only at wr_5
        subst wr_5
        refine lv_if_eq (tgt := 67) hx hb dX8_set_54 (by decide) (fun c_54_5 => ?_) (fun c_54_5 => ?_)
        · have t_54_5 := c_54_5
          try simp only [kb_eq0, kb_ne0, lg_cmp_lt, lg_cmp_le, lg_cmp_gt, lg_cmp_ge, lg_cmp_eq] at t_54_5
          try simp only [Int32.lt_iff_toInt_lt, Int32.le_iff_toInt_le, ← Int32.toInt_inj, Int64.lt_iff_toInt_lt, Int64.le_iff_toInt_le, ← Int64.toInt_inj, Int32.toInt_toInt64, Int32.reduceToInt, Int64.reduceToInt] at t_54_5
          refine lv_iconst (v := (-1)) hx hb dX8_set_67 (by decide) ?_
          refine kIret (u := (0, 0, 0, 0, 0, 0)) hx hb hr rfl hlocks hS dX8_set_68 ?_ (hP.sub [0] rfl) (hD.sub [0] (by decide) rfl)
          have hm := congrArg Int64.toInt (kMost_out hsw)
          simp only [Int64.reduceToInt] at hm
          first
            | exact (kif_t (by omega)).symm
            | exact (kif_f (by omega)).symm
        · have t_54_5 := c_54_5
          try simp only [kb_eq0, kb_ne0, lg_cmp_lt, lg_cmp_le, lg_cmp_gt, lg_cmp_ge, lg_cmp_eq] at t_54_5
          try simp only [Int32.lt_iff_toInt_lt, Int32.le_iff_toInt_le, ← Int32.toInt_inj, Int64.lt_iff_toInt_lt, Int64.le_iff_toInt_le, ← Int64.toInt_inj, Int32.toInt_toInt64, Int32.reduceToInt, Int64.reduceToInt] at t_54_5
          omega
      · have t_6_3 := c_6_3
        try simp only [kb_eq0, kb_ne0, lg_cmp_lt, lg_cmp_le, lg_cmp_gt, lg_cmp_ge, lg_cmp_eq] at t_6_3
        try simp only [Int32.lt_iff_toInt_lt, Int32.le_iff_toInt_le, ← Int32.toInt_inj, Int64.lt_iff_toInt_lt, Int64.le_iff_toInt_le, ← Int64.toInt_inj, Int32.toInt_toInt64, Int32.reduceToInt, Int64.reduceToInt] at t_6_3
        refine lv_iload_n hx hb dX8_set_9 rfl (lv_at hl 1 rfl) ?_
        refine lv_iconst (v := 4) hx hb dX8_set_10 (by decide) ?_
        refine lv_icmp_ne (tgt := 18) hx hb dX8_set_11 (by decide) (fun c_11_6 => ?_) (fun c_11_6 => ?_)
        · have t_11_6 := c_11_6
          try simp only [kb_eq0, kb_ne0, lg_cmp_lt, lg_cmp_le, lg_cmp_gt, lg_cmp_ge, lg_cmp_eq] at t_11_6
          try simp only [Int32.lt_iff_toInt_lt, Int32.le_iff_toInt_le, ← Int32.toInt_inj, Int64.lt_iff_toInt_lt, Int64.le_iff_toInt_le, ← Int64.toInt_inj, Int32.toInt_toInt64, Int32.reduceToInt, Int64.reduceToInt] at t_11_6
          refine lv_iload_n hx hb dX8_set_18 rfl (lv_at hl 1 rfl) ?_
          refine lv_iconst (v := 1) hx hb dX8_set_19 (by decide) ?_
          refine lv_icmp_ne (tgt := 29) hx hb dX8_set_20 (by decide) (fun c_20_7 => ?_) (fun c_20_7 => ?_)
          · have t_20_7 := c_20_7
            try simp only [kb_eq0, kb_ne0, lg_cmp_lt, lg_cmp_le, lg_cmp_gt, lg_cmp_ge, lg_cmp_eq] at t_20_7
            try simp only [Int32.lt_iff_toInt_lt, Int32.le_iff_toInt_le, ← Int32.toInt_inj, Int64.lt_iff_toInt_lt, Int64.le_iff_toInt_le, ← Int64.toInt_inj, Int32.toInt_toInt64, Int32.reduceToInt, Int64.reduceToInt] at t_20_7
            refine lv_iload_n hx hb dX8_set_29 rfl (lv_at hl 1 rfl) ?_
            refine lv_iconst (v := 3) hx hb dX8_set_30 (by decide) ?_
            refine lv_icmp_ne (tgt := 40) hx hb dX8_set_31 (by decide) (fun c_31_8 => ?_) (fun c_31_8 => ?_)
            · have t_31_8 := c_31_8
              try simp only [kb_eq0, kb_ne0, lg_cmp_lt, lg_cmp_le, lg_cmp_gt, lg_cmp_ge, lg_cmp_eq] at t_31_8
              try simp only [Int32.lt_iff_toInt_lt, Int32.le_iff_toInt_le, ← Int32.toInt_inj, Int64.lt_iff_toInt_lt, Int64.le_iff_toInt_le, ← Int64.toInt_inj, Int32.toInt_toInt64, Int32.reduceToInt, Int64.reduceToInt] at t_31_8
              refine lv_ldc2 (v := 511) hx hb hown (hts (.constantLong RX8 47 (511)) (List.mem_of_getElem? (i := 3) rfl)) dX8_set_40 ?_
              refine lv_lstore (lv' := [(4, .long 511), (0, .ref m0), (1, .int w), (2, .long v)]) hx hb dX8_set_43 hl (by decide) rfl (fun ls hl => ?_)
              refine lv_iload_n hx hb dX8_set_45 rfl (lv_at hl 2 rfl) ?_
              refine lv_i2l hx hb dX8_set_46 rfl ?_
              refine lv_lconst (v := 0) hx hb dX8_set_47 (by decide) ?_
              refine lv_ldc2 (v := 5) hx hb hown (hts (.constantLong RX8 94 (5)) (List.mem_of_getElem? (i := 4) rfl)) dX8_set_48 ?_
              refine kCallI (wr := [(m0, .inr (8, [.ref mH, .int 0, .long 0, .int 0, .long 0, .int 0, .int 0, .int 0, .int 0, .int 0, .int 0, .long 0, .int 0, .int 0, .ref mI, .ref mJ, .ref mS, .ref mD, .int 0, .int 0, .int 0, .long 0, .ref mX, .int 0, .int 0, .int 0, .ref mA, .ref mB, .ref mW, .ref mL, .int 0]))]) (va_runS (As := [.long w.toInt64, .long 0, .long 5]) (rest := []) ⟨hx, hb, hml, hown, hts⟩ (r_in l D cI cL cB cZ cT _ (w.toInt64) 0 5) (va_cwS 3 hts gX8_set_X8_in rfl rfl rfl (by decide +kernel) ⟨Nat.le_of_ble_eq_true rfl, Nat.le_of_ble_eq_true rfl⟩) (kPreS hG hP hD [] rfl (by decide)) rfl rfl hl.1 rfl (lv_room (Nat.le_of_ble_eq_true rfl)) dX8_set_51 ⟨Nat.le_of_ble_eq_true rfl, Nat.le_of_ble_eq_true rfl⟩) hA hP hD hS [] [0] rfl rfl (by decide) (by decide) (fun r_10 u_r_10 H locs wr_10 hP hD hS => ?_)
              have hP : va_P D vwCl [(m0, .inr (8, [.ref mH, .int 0, .long 0, .int 0, .long 0, .int 0, .int 0, .int 0, .int 0, .int 0, .int 0, .long 0, .int 0, .int 0, .ref mI, .ref mJ, .ref mS, .ref mD, .int 0, .int 0, .int 0, .long 0, .ref mX, .int 0, .int 0, .int 0, .ref mA, .ref mB, .ref mW, .ref mL, .int 0]))] H := hP
              have hD : va_D A [(m0, .inr (8, [.ref mH, .int 0, .long 0, .int 0, .long 0, .int 0, .int 0, .int 0, .int 0, .int 0, .int 0, .long 0, .int 0, .int 0, .ref mI, .ref mJ, .ref mS, .ref mD, .int 0, .int 0, .int 0, .long 0, .ref mX, .int 0, .int 0, .int 0, .ref mA, .ref mB, .ref mW, .ref mL, .int 0]))] := hD
              try dsimp only at wr_10
              subst wr_10
              refine lv_if_eq (tgt := 67) hx hb dX8_set_54 (by decide) (fun c_54_10 => ?_) (fun c_54_10 => ?_)
              · have t_54_10 := c_54_10
                try simp only [kb_eq0, kb_ne0, lg_cmp_lt, lg_cmp_le, lg_cmp_gt, lg_cmp_ge, lg_cmp_eq] at t_54_10
                try simp only [Int32.lt_iff_toInt_lt, Int32.le_iff_toInt_le, ← Int32.toInt_inj, Int64.lt_iff_toInt_lt, Int64.le_iff_toInt_le, ← Int64.toInt_inj, Int32.toInt_toInt64, Int32.reduceToInt, Int64.reduceToInt] at t_54_10
                refine lv_iconst (v := (-1)) hx hb dX8_set_67 (by decide) ?_
                refine kIret (u := (0, 0, 0, 0, 0, 0)) hx hb hr rfl hlocks hS dX8_set_68 ?_ (hP.sub [0] rfl) (hD.sub [0] (by decide) rfl)
                have hm := congrArg Int64.toInt (kMost_out hsw)
                simp only [Int64.reduceToInt] at hm
                first
                  | exact (kif_t (by omega)).symm
                  | exact (kif_f (by omega)).symm
              · have t_54_10 := c_54_10
                try simp only [kb_eq0, kb_ne0, lg_cmp_lt, lg_cmp_le, lg_cmp_gt, lg_cmp_ge, lg_cmp_eq] at t_54_10
                try simp only [Int32.lt_iff_toInt_lt, Int32.le_iff_toInt_le, ← Int32.toInt_inj, Int64.lt_iff_toInt_lt, Int64.le_iff_toInt_le, ← Int64.toInt_inj, Int32.toInt_toInt64, Int32.reduceToInt, Int64.reduceToInt] at t_54_10
                omega
            · have t_31_8 := c_31_8
              try simp only [kb_eq0, kb_ne0, lg_cmp_lt, lg_cmp_le, lg_cmp_gt, lg_cmp_ge, lg_cmp_eq] at t_31_8
              try simp only [Int32.lt_iff_toInt_lt, Int32.le_iff_toInt_le, ← Int32.toInt_inj, Int64.lt_iff_toInt_lt, Int64.le_iff_toInt_le, ← Int64.toInt_inj, Int32.toInt_toInt64, Int32.reduceToInt, Int64.reduceToInt] at t_31_8
              refine lv_ldc2 (v := 34359738367) hx hb hown (hts (.constantLong RX8 92 (34359738367)) (List.mem_of_getElem? (i := 2) rfl)) dX8_set_34 ?_
              refine lv_goto (tgt := 43) hx hb dX8_set_37 (by decide) ?_
              refine lv_lstore (lv' := [(4, .long 34359738367), (0, .ref m0), (1, .int w), (2, .long v)]) hx hb dX8_set_43 hl (by decide) rfl (fun ls hl => ?_)
              refine lv_iload_n hx hb dX8_set_45 rfl (lv_at hl 2 rfl) ?_
              refine lv_i2l hx hb dX8_set_46 rfl ?_
              refine lv_lconst (v := 0) hx hb dX8_set_47 (by decide) ?_
              refine lv_ldc2 (v := 5) hx hb hown (hts (.constantLong RX8 94 (5)) (List.mem_of_getElem? (i := 4) rfl)) dX8_set_48 ?_
              refine kCallI (wr := [(m0, .inr (8, [.ref mH, .int 0, .long 0, .int 0, .long 0, .int 0, .int 0, .int 0, .int 0, .int 0, .int 0, .long 0, .int 0, .int 0, .ref mI, .ref mJ, .ref mS, .ref mD, .int 0, .int 0, .int 0, .long 0, .ref mX, .int 0, .int 0, .int 0, .ref mA, .ref mB, .ref mW, .ref mL, .int 0]))]) (va_runS (As := [.long w.toInt64, .long 0, .long 5]) (rest := []) ⟨hx, hb, hml, hown, hts⟩ (r_in l D cI cL cB cZ cT _ (w.toInt64) 0 5) (va_cwS 3 hts gX8_set_X8_in rfl rfl rfl (by decide +kernel) ⟨Nat.le_of_ble_eq_true rfl, Nat.le_of_ble_eq_true rfl⟩) (kPreS hG hP hD [] rfl (by decide)) rfl rfl hl.1 rfl (lv_room (Nat.le_of_ble_eq_true rfl)) dX8_set_51 ⟨Nat.le_of_ble_eq_true rfl, Nat.le_of_ble_eq_true rfl⟩) hA hP hD hS [] [0] rfl rfl (by decide) (by decide) (fun r_12 u_r_12 H locs wr_12 hP hD hS => ?_)
              have hP : va_P D vwCl [(m0, .inr (8, [.ref mH, .int 0, .long 0, .int 0, .long 0, .int 0, .int 0, .int 0, .int 0, .int 0, .int 0, .long 0, .int 0, .int 0, .ref mI, .ref mJ, .ref mS, .ref mD, .int 0, .int 0, .int 0, .long 0, .ref mX, .int 0, .int 0, .int 0, .ref mA, .ref mB, .ref mW, .ref mL, .int 0]))] H := hP
              have hD : va_D A [(m0, .inr (8, [.ref mH, .int 0, .long 0, .int 0, .long 0, .int 0, .int 0, .int 0, .int 0, .int 0, .int 0, .long 0, .int 0, .int 0, .ref mI, .ref mJ, .ref mS, .ref mD, .int 0, .int 0, .int 0, .long 0, .ref mX, .int 0, .int 0, .int 0, .ref mA, .ref mB, .ref mW, .ref mL, .int 0]))] := hD
              try dsimp only at wr_12
              subst wr_12
              refine lv_if_eq (tgt := 67) hx hb dX8_set_54 (by decide) (fun c_54_12 => ?_) (fun c_54_12 => ?_)
              · have t_54_12 := c_54_12
                try simp only [kb_eq0, kb_ne0, lg_cmp_lt, lg_cmp_le, lg_cmp_gt, lg_cmp_ge, lg_cmp_eq] at t_54_12
                try simp only [Int32.lt_iff_toInt_lt, Int32.le_iff_toInt_le, ← Int32.toInt_inj, Int64.lt_iff_toInt_lt, Int64.le_iff_toInt_le, ← Int64.toInt_inj, Int32.toInt_toInt64, Int32.reduceToInt, Int64.reduceToInt] at t_54_12
                refine lv_iconst (v := (-1)) hx hb dX8_set_67 (by decide) ?_
                refine kIret (u := (0, 0, 0, 0, 0, 0)) hx hb hr rfl hlocks hS dX8_set_68 ?_ (hP.sub [0] rfl) (hD.sub [0] (by decide) rfl)
                have hm := congrArg Int64.toInt (kMost_out hsw)
                simp only [Int64.reduceToInt] at hm
                first
                  | exact (kif_t (by omega)).symm
                  | exact (kif_f (by omega)).symm
              · have t_54_12 := c_54_12
                try simp only [kb_eq0, kb_ne0, lg_cmp_lt, lg_cmp_le, lg_cmp_gt, lg_cmp_ge, lg_cmp_eq] at t_54_12
                try simp only [Int32.lt_iff_toInt_lt, Int32.le_iff_toInt_le, ← Int32.toInt_inj, Int64.lt_iff_toInt_lt, Int64.le_iff_toInt_le, ← Int64.toInt_inj, Int32.toInt_toInt64, Int32.reduceToInt, Int64.reduceToInt] at t_54_12
                omega
          · have t_20_7 := c_20_7
            try simp only [kb_eq0, kb_ne0, lg_cmp_lt, lg_cmp_le, lg_cmp_gt, lg_cmp_ge, lg_cmp_eq] at t_20_7
            try simp only [Int32.lt_iff_toInt_lt, Int32.le_iff_toInt_le, ← Int32.toInt_inj, Int64.lt_iff_toInt_lt, Int64.le_iff_toInt_le, ← Int64.toInt_inj, Int32.toInt_toInt64, Int32.reduceToInt, Int64.reduceToInt] at t_20_7
            refine lv_ldc2 (v := 137438953471) hx hb hown (hts (.constantLong RX8 90 (137438953471)) (List.mem_of_getElem? (i := 1) rfl)) dX8_set_23 ?_
            refine lv_goto (tgt := 43) hx hb dX8_set_26 (by decide) ?_
            refine lv_lstore (lv' := [(4, .long 137438953471), (0, .ref m0), (1, .int w), (2, .long v)]) hx hb dX8_set_43 hl (by decide) rfl (fun ls hl => ?_)
            refine lv_iload_n hx hb dX8_set_45 rfl (lv_at hl 2 rfl) ?_
            refine lv_i2l hx hb dX8_set_46 rfl ?_
            refine lv_lconst (v := 0) hx hb dX8_set_47 (by decide) ?_
            refine lv_ldc2 (v := 5) hx hb hown (hts (.constantLong RX8 94 (5)) (List.mem_of_getElem? (i := 4) rfl)) dX8_set_48 ?_
            refine kCallI (wr := [(m0, .inr (8, [.ref mH, .int 0, .long 0, .int 0, .long 0, .int 0, .int 0, .int 0, .int 0, .int 0, .int 0, .long 0, .int 0, .int 0, .ref mI, .ref mJ, .ref mS, .ref mD, .int 0, .int 0, .int 0, .long 0, .ref mX, .int 0, .int 0, .int 0, .ref mA, .ref mB, .ref mW, .ref mL, .int 0]))]) (va_runS (As := [.long w.toInt64, .long 0, .long 5]) (rest := []) ⟨hx, hb, hml, hown, hts⟩ (r_in l D cI cL cB cZ cT _ (w.toInt64) 0 5) (va_cwS 3 hts gX8_set_X8_in rfl rfl rfl (by decide +kernel) ⟨Nat.le_of_ble_eq_true rfl, Nat.le_of_ble_eq_true rfl⟩) (kPreS hG hP hD [] rfl (by decide)) rfl rfl hl.1 rfl (lv_room (Nat.le_of_ble_eq_true rfl)) dX8_set_51 ⟨Nat.le_of_ble_eq_true rfl, Nat.le_of_ble_eq_true rfl⟩) hA hP hD hS [] [0] rfl rfl (by decide) (by decide) (fun r_14 u_r_14 H locs wr_14 hP hD hS => ?_)
            have hP : va_P D vwCl [(m0, .inr (8, [.ref mH, .int 0, .long 0, .int 0, .long 0, .int 0, .int 0, .int 0, .int 0, .int 0, .int 0, .long 0, .int 0, .int 0, .ref mI, .ref mJ, .ref mS, .ref mD, .int 0, .int 0, .int 0, .long 0, .ref mX, .int 0, .int 0, .int 0, .ref mA, .ref mB, .ref mW, .ref mL, .int 0]))] H := hP
            have hD : va_D A [(m0, .inr (8, [.ref mH, .int 0, .long 0, .int 0, .long 0, .int 0, .int 0, .int 0, .int 0, .int 0, .int 0, .long 0, .int 0, .int 0, .ref mI, .ref mJ, .ref mS, .ref mD, .int 0, .int 0, .int 0, .long 0, .ref mX, .int 0, .int 0, .int 0, .ref mA, .ref mB, .ref mW, .ref mL, .int 0]))] := hD
            try dsimp only at wr_14
            subst wr_14
            refine lv_if_eq (tgt := 67) hx hb dX8_set_54 (by decide) (fun c_54_14 => ?_) (fun c_54_14 => ?_)
            · have t_54_14 := c_54_14
              try simp only [kb_eq0, kb_ne0, lg_cmp_lt, lg_cmp_le, lg_cmp_gt, lg_cmp_ge, lg_cmp_eq] at t_54_14
              try simp only [Int32.lt_iff_toInt_lt, Int32.le_iff_toInt_le, ← Int32.toInt_inj, Int64.lt_iff_toInt_lt, Int64.le_iff_toInt_le, ← Int64.toInt_inj, Int32.toInt_toInt64, Int32.reduceToInt, Int64.reduceToInt] at t_54_14
              refine lv_iconst (v := (-1)) hx hb dX8_set_67 (by decide) ?_
              refine kIret (u := (0, 0, 0, 0, 0, 0)) hx hb hr rfl hlocks hS dX8_set_68 ?_ (hP.sub [0] rfl) (hD.sub [0] (by decide) rfl)
              have hm := congrArg Int64.toInt (kMost_out hsw)
              simp only [Int64.reduceToInt] at hm
              first
                | exact (kif_t (by omega)).symm
                | exact (kif_f (by omega)).symm
            · have t_54_14 := c_54_14
              try simp only [kb_eq0, kb_ne0, lg_cmp_lt, lg_cmp_le, lg_cmp_gt, lg_cmp_ge, lg_cmp_eq] at t_54_14
              try simp only [Int32.lt_iff_toInt_lt, Int32.le_iff_toInt_le, ← Int32.toInt_inj, Int64.lt_iff_toInt_lt, Int64.le_iff_toInt_le, ← Int64.toInt_inj, Int32.toInt_toInt64, Int32.reduceToInt, Int64.reduceToInt] at t_54_14
              omega
        · have t_11_6 := c_11_6
          try simp only [kb_eq0, kb_ne0, lg_cmp_lt, lg_cmp_le, lg_cmp_gt, lg_cmp_ge, lg_cmp_eq] at t_11_6
          try simp only [Int32.lt_iff_toInt_lt, Int32.le_iff_toInt_le, ← Int32.toInt_inj, Int64.lt_iff_toInt_lt, Int64.le_iff_toInt_le, ← Int64.toInt_inj, Int32.toInt_toInt64, Int32.reduceToInt, Int64.reduceToInt] at t_11_6
          refine lv_lconst (v := 1) hx hb dX8_set_14 (by decide) ?_
          refine lv_goto (tgt := 43) hx hb dX8_set_15 (by decide) ?_
          refine lv_lstore (lv' := [(4, .long 1), (0, .ref m0), (1, .int w), (2, .long v)]) hx hb dX8_set_43 hl (by decide) rfl (fun ls hl => ?_)
          refine lv_iload_n hx hb dX8_set_45 rfl (lv_at hl 2 rfl) ?_
          refine lv_i2l hx hb dX8_set_46 rfl ?_
          refine lv_lconst (v := 0) hx hb dX8_set_47 (by decide) ?_
          refine lv_ldc2 (v := 5) hx hb hown (hts (.constantLong RX8 94 (5)) (List.mem_of_getElem? (i := 4) rfl)) dX8_set_48 ?_
          refine kCallI (wr := [(m0, .inr (8, [.ref mH, .int 0, .long 0, .int 0, .long 0, .int 0, .int 0, .int 0, .int 0, .int 0, .int 0, .long 0, .int 0, .int 0, .ref mI, .ref mJ, .ref mS, .ref mD, .int 0, .int 0, .int 0, .long 0, .ref mX, .int 0, .int 0, .int 0, .ref mA, .ref mB, .ref mW, .ref mL, .int 0]))]) (va_runS (As := [.long w.toInt64, .long 0, .long 5]) (rest := []) ⟨hx, hb, hml, hown, hts⟩ (r_in l D cI cL cB cZ cT _ (w.toInt64) 0 5) (va_cwS 3 hts gX8_set_X8_in rfl rfl rfl (by decide +kernel) ⟨Nat.le_of_ble_eq_true rfl, Nat.le_of_ble_eq_true rfl⟩) (kPreS hG hP hD [] rfl (by decide)) rfl rfl hl.1 rfl (lv_room (Nat.le_of_ble_eq_true rfl)) dX8_set_51 ⟨Nat.le_of_ble_eq_true rfl, Nat.le_of_ble_eq_true rfl⟩) hA hP hD hS [] [0] rfl rfl (by decide) (by decide) (fun r_16 u_r_16 H locs wr_16 hP hD hS => ?_)
          have hP : va_P D vwCl [(m0, .inr (8, [.ref mH, .int 0, .long 0, .int 0, .long 0, .int 0, .int 0, .int 0, .int 0, .int 0, .int 0, .long 0, .int 0, .int 0, .ref mI, .ref mJ, .ref mS, .ref mD, .int 0, .int 0, .int 0, .long 0, .ref mX, .int 0, .int 0, .int 0, .ref mA, .ref mB, .ref mW, .ref mL, .int 0]))] H := hP
          have hD : va_D A [(m0, .inr (8, [.ref mH, .int 0, .long 0, .int 0, .long 0, .int 0, .int 0, .int 0, .int 0, .int 0, .int 0, .long 0, .int 0, .int 0, .ref mI, .ref mJ, .ref mS, .ref mD, .int 0, .int 0, .int 0, .long 0, .ref mX, .int 0, .int 0, .int 0, .ref mA, .ref mB, .ref mW, .ref mL, .int 0]))] := hD
          try dsimp only at wr_16
          subst wr_16
          refine lv_if_eq (tgt := 67) hx hb dX8_set_54 (by decide) (fun c_54_16 => ?_) (fun c_54_16 => ?_)
          · have t_54_16 := c_54_16
            try simp only [kb_eq0, kb_ne0, lg_cmp_lt, lg_cmp_le, lg_cmp_gt, lg_cmp_ge, lg_cmp_eq] at t_54_16
            try simp only [Int32.lt_iff_toInt_lt, Int32.le_iff_toInt_le, ← Int32.toInt_inj, Int64.lt_iff_toInt_lt, Int64.le_iff_toInt_le, ← Int64.toInt_inj, Int32.toInt_toInt64, Int32.reduceToInt, Int64.reduceToInt] at t_54_16
            refine lv_iconst (v := (-1)) hx hb dX8_set_67 (by decide) ?_
            refine kIret (u := (0, 0, 0, 0, 0, 0)) hx hb hr rfl hlocks hS dX8_set_68 ?_ (hP.sub [0] rfl) (hD.sub [0] (by decide) rfl)
            have hm := congrArg Int64.toInt (kMost_out hsw)
            simp only [Int64.reduceToInt] at hm
            first
              | exact (kif_t (by omega)).symm
              | exact (kif_f (by omega)).symm
          · have t_54_16 := c_54_16
            try simp only [kb_eq0, kb_ne0, lg_cmp_lt, lg_cmp_le, lg_cmp_gt, lg_cmp_ge, lg_cmp_eq] at t_54_16
            try simp only [Int32.lt_iff_toInt_lt, Int32.le_iff_toInt_le, ← Int32.toInt_inj, Int64.lt_iff_toInt_lt, Int64.le_iff_toInt_le, ← Int64.toInt_inj, Int32.toInt_toInt64, Int32.reduceToInt, Int64.reduceToInt] at t_54_16
            omega
  · refine lv_iload_n hx hb dX8_set_0 rfl (lv_at hl 1 rfl) ?_
    refine lv_if_eq (tgt := 14) hx hb dX8_set_1 (by decide) (fun c_1_17 => ?_) (fun c_1_17 => ?_)
    · have t_1_17 := c_1_17
      try simp only [kb_eq0, kb_ne0, lg_cmp_lt, lg_cmp_le, lg_cmp_gt, lg_cmp_ge, lg_cmp_eq] at t_1_17
      try simp only [Int32.lt_iff_toInt_lt, Int32.le_iff_toInt_le, ← Int32.toInt_inj, Int64.lt_iff_toInt_lt, Int64.le_iff_toInt_le, ← Int64.toInt_inj, Int32.toInt_toInt64, Int32.reduceToInt, Int64.reduceToInt] at t_1_17
      refine lv_lconst (v := 1) hx hb dX8_set_14 (by decide) ?_
      refine lv_goto (tgt := 43) hx hb dX8_set_15 (by decide) ?_
      refine lv_lstore (lv' := [(4, .long 1), (0, .ref m0), (1, .int 0), (2, .long v)]) hx hb dX8_set_43 hl (by decide) rfl (fun ls hl => ?_)
      refine lv_iload_n hx hb dX8_set_45 rfl (lv_at hl 2 rfl) ?_
      refine lv_i2l hx hb dX8_set_46 rfl ?_
      refine lv_topl (fun x_19 ex_19 => ?_)
      obtain rfl : x_19 = 0 := ex_19.trans (by decide)
      refine lv_lconst (v := 0) hx hb dX8_set_47 (by decide) ?_
      refine lv_ldc2 (v := 5) hx hb hown (hts (.constantLong RX8 94 (5)) (List.mem_of_getElem? (i := 4) rfl)) dX8_set_48 ?_
      refine kCallI (wr := [(m0, .inr (8, [.ref mH, .int 0, .long 0, .int 0, .long 0, .int 0, .int 0, .int 0, .int 0, .int 0, .int 0, .long 0, .int 0, .int 0, .ref mI, .ref mJ, .ref mS, .ref mD, .int 0, .int 0, .int 0, .long 0, .ref mX, .int 0, .int 0, .int 0, .ref mA, .ref mB, .ref mW, .ref mL, .int 0]))]) (va_runS (As := [.long 0, .long 0, .long 5]) (rest := []) ⟨hx, hb, hml, hown, hts⟩ (r_in l D cI cL cB cZ cT _ 0 0 5) (va_cwS 3 hts gX8_set_X8_in rfl rfl rfl (by decide +kernel) ⟨Nat.le_of_ble_eq_true rfl, Nat.le_of_ble_eq_true rfl⟩) (kPreS hG hP hD [] rfl (by decide)) rfl rfl hl.1 rfl (lv_room (Nat.le_of_ble_eq_true rfl)) dX8_set_51 ⟨Nat.le_of_ble_eq_true rfl, Nat.le_of_ble_eq_true rfl⟩) hA hP hD hS [] [0] rfl rfl (by decide) (by decide) (fun r_20 u_r_20 H locs wr_20 hP hD hS => ?_)
      have hP : va_P D vwCl [(m0, .inr (8, [.ref mH, .int 0, .long 0, .int 0, .long 0, .int 0, .int 0, .int 0, .int 0, .int 0, .int 0, .long 0, .int 0, .int 0, .ref mI, .ref mJ, .ref mS, .ref mD, .int 0, .int 0, .int 0, .long 0, .ref mX, .int 0, .int 0, .int 0, .ref mA, .ref mB, .ref mW, .ref mL, .int 0]))] H := hP
      have hD : va_D A [(m0, .inr (8, [.ref mH, .int 0, .long 0, .int 0, .long 0, .int 0, .int 0, .int 0, .int 0, .int 0, .int 0, .long 0, .int 0, .int 0, .ref mI, .ref mJ, .ref mS, .ref mD, .int 0, .int 0, .int 0, .long 0, .ref mX, .int 0, .int 0, .int 0, .ref mA, .ref mB, .ref mW, .ref mL, .int 0]))] := hD
      try dsimp only at wr_20
      subst wr_20
      refine lv_if_eq (tgt := 67) hx hb dX8_set_54 (by decide) (fun c_54_20 => ?_) (fun c_54_20 => ?_)
      · have t_54_20 := c_54_20
        try simp only [kb_eq0, kb_ne0, lg_cmp_lt, lg_cmp_le, lg_cmp_gt, lg_cmp_ge, lg_cmp_eq] at t_54_20
        try simp only [Int32.lt_iff_toInt_lt, Int32.le_iff_toInt_le, ← Int32.toInt_inj, Int64.lt_iff_toInt_lt, Int64.le_iff_toInt_le, ← Int64.toInt_inj, Int32.toInt_toInt64, Int32.reduceToInt, Int64.reduceToInt] at t_54_20
        omega
      · have t_54_20 := c_54_20
        try simp only [kb_eq0, kb_ne0, lg_cmp_lt, lg_cmp_le, lg_cmp_gt, lg_cmp_ge, lg_cmp_eq] at t_54_20
        try simp only [Int32.lt_iff_toInt_lt, Int32.le_iff_toInt_le, ← Int32.toInt_inj, Int64.lt_iff_toInt_lt, Int64.le_iff_toInt_le, ← Int64.toInt_inj, Int32.toInt_toInt64, Int32.reduceToInt, Int64.reduceToInt] at t_54_20
        refine lv_lload_n hx hb dX8_set_57 rfl (lv_at hl 3 rfl) ?_
        refine lv_lconst (v := 0) hx hb dX8_set_58 (by decide) ?_
        refine lv_lload hx hb dX8_set_59 (lv_at hl 0 rfl) ?_
        refine kCallI (wr := [(m0, .inr (8, [.ref mH, .int 0, .long 0, .int 0, .long 0, .int 0, .int 0, .int 0, .int 0, .int 0, .int 0, .long 0, .int 0, .int 0, .ref mI, .ref mJ, .ref mS, .ref mD, .int 0, .int 0, .int 0, .long 0, .ref mX, .int 0, .int 0, .int 0, .ref mA, .ref mB, .ref mW, .ref mL, .int 0]))]) (va_runS (As := [.long v, .long 0, .long 1]) (rest := []) ⟨hx, hb, hml, hown, hts⟩ (r_in l D cI cL cB cZ cT _ v 0 1) (va_cwS 3 hts gX8_set_X8_in rfl rfl rfl (by decide +kernel) ⟨Nat.le_of_ble_eq_true rfl, Nat.le_of_ble_eq_true rfl⟩) (kPreS hG hP hD [] rfl (by decide)) rfl rfl hl.1 rfl (lv_room (Nat.le_of_ble_eq_true rfl)) dX8_set_61 ⟨Nat.le_of_ble_eq_true rfl, Nat.le_of_ble_eq_true rfl⟩) hA hP hD hS [] [0] rfl rfl (by decide) (by decide) (fun r_22 u_r_22 H locs wr_22 hP hD hS => ?_)
        have hP : va_P D vwCl [(m0, .inr (8, [.ref mH, .int 0, .long 0, .int 0, .long 0, .int 0, .int 0, .int 0, .int 0, .int 0, .int 0, .long 0, .int 0, .int 0, .ref mI, .ref mJ, .ref mS, .ref mD, .int 0, .int 0, .int 0, .long 0, .ref mX, .int 0, .int 0, .int 0, .ref mA, .ref mB, .ref mW, .ref mL, .int 0]))] H := hP
        have hD : va_D A [(m0, .inr (8, [.ref mH, .int 0, .long 0, .int 0, .long 0, .int 0, .int 0, .int 0, .int 0, .int 0, .int 0, .long 0, .int 0, .int 0, .ref mI, .ref mJ, .ref mS, .ref mD, .int 0, .int 0, .int 0, .long 0, .ref mX, .int 0, .int 0, .int 0, .ref mA, .ref mB, .ref mW, .ref mL, .int 0]))] := hD
        try dsimp only at wr_22
        subst wr_22
        refine lv_if_ne (tgt := 69) hx hb dX8_set_64 (by decide) (fun c_64_22 => ?_) (fun c_64_22 => ?_)
        · have t_64_22 := c_64_22
          try simp only [kb_eq0, kb_ne0, lg_cmp_lt, lg_cmp_le, lg_cmp_gt, lg_cmp_ge, lg_cmp_eq] at t_64_22
          try simp only [Int32.lt_iff_toInt_lt, Int32.le_iff_toInt_le, ← Int32.toInt_inj, Int64.lt_iff_toInt_lt, Int64.le_iff_toInt_le, ← Int64.toInt_inj, Int32.toInt_toInt64, Int32.reduceToInt, Int64.reduceToInt] at t_64_22
          refine lv_iload_n hx hb dX8_set_69 rfl (lv_at hl 2 rfl) ?_
          refine lv_tableIn (tgt := 104) (off := 34) hx hb dX8_set_70 (by decide) (by decide) (by decide) (by decide) ?_
          refine lv_aload_n hx hb dX8_set_104 rfl (lv_at hl 1 rfl) ?_
          refine lv_lload_n hx hb dX8_set_105 rfl (lv_at hl 3 rfl) ?_
          refine lv_lconst (v := 1) hx hb dX8_set_106 (by decide) ?_
          refine W.lcmp hx hb dX8_set_107 ?_
          refine lv_if_ne (tgt := 115) hx hb dX8_set_108 (by decide) (fun c_108_23 => ?_) (fun c_108_23 => ?_)
          · have t_108_23 := c_108_23
            try simp only [kb_eq0, kb_ne0, lg_cmp_lt, lg_cmp_le, lg_cmp_gt, lg_cmp_ge, lg_cmp_eq] at t_108_23
            try simp only [Int32.lt_iff_toInt_lt, Int32.le_iff_toInt_le, ← Int32.toInt_inj, Int64.lt_iff_toInt_lt, Int64.le_iff_toInt_le, ← Int64.toInt_inj, Int32.toInt_toInt64, Int32.reduceToInt, Int64.reduceToInt] at t_108_23
            refine lv_iconst (v := 0) hx hb dX8_set_115 (by decide) ?_
            refine va_put (D := D) (ci := 8) (v := .int 0) (ty := .boolean) (C := RX8) (T := TX8) (N := 31) hx hb hts iX8_set_X8 tyX8 tyX8_ok nmX8 hown hK hP hD hS 0 rfl rfl 1 (by decide) (hts (.fieldLink RX8 61 "TapeCalculatorModel" "accMinus" "Z") (List.mem_of_getElem? (i := 5) rfl)) (fun _ h9 => h9) rfl (by decide +kernel) rfl rfl (Nat.le_of_ble_eq_true rfl) dX8_set_116 (fun H locs hP hD hS => ?_)
            have hP : va_P D vwCl [(m0, .inr (8, [.ref mH, .int 0, .long 0, .int 0, .long 0, .int 0, .int 0, .int 0, .int 0, .int 0, .int 0, .long 0, .int 0, .int 0, .ref mI, .ref mJ, .ref mS, .ref mD, .int 0, .int 0, .int 0, .long 0, .ref mX, .int 0, .int 0, .int 0, .ref mA, .ref mB, .ref mW, .ref mL, .int 0]))] H := hP
            have hD : va_D A [(m0, .inr (8, [.ref mH, .int 0, .long 0, .int 0, .long 0, .int 0, .int 0, .int 0, .int 0, .int 0, .int 0, .long 0, .int 0, .int 0, .ref mI, .ref mJ, .ref mS, .ref mD, .int 0, .int 0, .int 0, .long 0, .ref mX, .int 0, .int 0, .int 0, .ref mA, .ref mB, .ref mW, .ref mL, .int 0]))] := hD
            refine lv_goto (tgt := 180) hx hb dX8_set_119 (by decide) ?_
            refine lv_iconst (v := 1) hx hb dX8_set_180 (by decide) ?_
            refine kIret (u := (0, 0, 0, 0, 0, 0)) hx hb hr rfl hlocks hS dX8_set_181 ?_ (hP.sub [0] rfl) (hD.sub [0] (by decide) rfl)
            have hm : (kMost 0).toInt = 1 := by decide
            first
              | exact (kif_t (by omega)).symm
              | exact (kif_f (by omega)).symm
          · have t_108_23 := c_108_23
            try simp only [kb_eq0, kb_ne0, lg_cmp_lt, lg_cmp_le, lg_cmp_gt, lg_cmp_ge, lg_cmp_eq] at t_108_23
            try simp only [Int32.lt_iff_toInt_lt, Int32.le_iff_toInt_le, ← Int32.toInt_inj, Int64.lt_iff_toInt_lt, Int64.le_iff_toInt_le, ← Int64.toInt_inj, Int32.toInt_toInt64, Int32.reduceToInt, Int64.reduceToInt] at t_108_23
            refine lv_iconst (v := 1) hx hb dX8_set_111 (by decide) ?_
            refine lv_goto (tgt := 116) hx hb dX8_set_112 (by decide) ?_
            refine va_put (D := D) (ci := 8) (v := .int 1) (ty := .boolean) (C := RX8) (T := TX8) (N := 31) hx hb hts iX8_set_X8 tyX8 tyX8_ok nmX8 hown hK hP hD hS 0 rfl rfl 1 (by decide) (hts (.fieldLink RX8 61 "TapeCalculatorModel" "accMinus" "Z") (List.mem_of_getElem? (i := 5) rfl)) (fun _ h9 => h9) rfl (by decide +kernel) rfl rfl (Nat.le_of_ble_eq_true rfl) dX8_set_116 (fun H locs hP hD hS => ?_)
            have hP : va_P D vwCl [(m0, .inr (8, [.ref mH, .int 1, .long 0, .int 0, .long 0, .int 0, .int 0, .int 0, .int 0, .int 0, .int 0, .long 0, .int 0, .int 0, .ref mI, .ref mJ, .ref mS, .ref mD, .int 0, .int 0, .int 0, .long 0, .ref mX, .int 0, .int 0, .int 0, .ref mA, .ref mB, .ref mW, .ref mL, .int 0]))] H := hP
            have hD : va_D A [(m0, .inr (8, [.ref mH, .int 1, .long 0, .int 0, .long 0, .int 0, .int 0, .int 0, .int 0, .int 0, .int 0, .long 0, .int 0, .int 0, .ref mI, .ref mJ, .ref mS, .ref mD, .int 0, .int 0, .int 0, .long 0, .ref mX, .int 0, .int 0, .int 0, .ref mA, .ref mB, .ref mW, .ref mL, .int 0]))] := hD
            refine lv_goto (tgt := 180) hx hb dX8_set_119 (by decide) ?_
            refine lv_iconst (v := 1) hx hb dX8_set_180 (by decide) ?_
            refine kIret (u := (1, 0, 0, 0, 0, 0)) hx hb hr rfl hlocks hS dX8_set_181 ?_ (hP.sub [0] rfl) (hD.sub [0] (by decide) rfl)
            have hm : (kMost 0).toInt = 1 := by decide
            first
              | exact (kif_t (by omega)).symm
              | exact (kif_f (by omega)).symm
        · have t_64_22 := c_64_22
          try simp only [kb_eq0, kb_ne0, lg_cmp_lt, lg_cmp_le, lg_cmp_gt, lg_cmp_ge, lg_cmp_eq] at t_64_22
          try simp only [Int32.lt_iff_toInt_lt, Int32.le_iff_toInt_le, ← Int32.toInt_inj, Int64.lt_iff_toInt_lt, Int64.le_iff_toInt_le, ← Int64.toInt_inj, Int32.toInt_toInt64, Int32.reduceToInt, Int64.reduceToInt] at t_64_22
          refine lv_iconst (v := (-1)) hx hb dX8_set_67 (by decide) ?_
          refine kIret (u := (0, 0, 0, 0, 0, 0)) hx hb hr rfl hlocks hS dX8_set_68 ?_ (hP.sub [0] rfl) (hD.sub [0] (by decide) rfl)
          have hm : (kMost 0).toInt = 1 := by decide
          first
            | exact (kif_t (by omega)).symm
            | exact (kif_f (by omega)).symm
    · exact absurd (by decide) c_1_17
  · refine lv_iload_n hx hb dX8_set_0 rfl (lv_at hl 1 rfl) ?_
    refine lv_if_eq (tgt := 14) hx hb dX8_set_1 (by decide) (fun c_1_24 => ?_) (fun c_1_24 => ?_)
    · exact absurd c_1_24 (by decide)
    · have t_1_24 := c_1_24
      try simp only [kb_eq0, kb_ne0, lg_cmp_lt, lg_cmp_le, lg_cmp_gt, lg_cmp_ge, lg_cmp_eq] at t_1_24
      try simp only [Int32.lt_iff_toInt_lt, Int32.le_iff_toInt_le, ← Int32.toInt_inj, Int64.lt_iff_toInt_lt, Int64.le_iff_toInt_le, ← Int64.toInt_inj, Int32.toInt_toInt64, Int32.reduceToInt, Int64.reduceToInt] at t_1_24
      refine lv_iload_n hx hb dX8_set_4 rfl (lv_at hl 1 rfl) ?_
      refine lv_iconst (v := 2) hx hb dX8_set_5 (by decide) ?_
      refine lv_icmp_eq (tgt := 14) hx hb dX8_set_6 (by decide) (fun c_6_25 => ?_) (fun c_6_25 => ?_)
      · exact absurd c_6_25 (by decide)
      · have t_6_25 := c_6_25
        try simp only [kb_eq0, kb_ne0, lg_cmp_lt, lg_cmp_le, lg_cmp_gt, lg_cmp_ge, lg_cmp_eq] at t_6_25
        try simp only [Int32.lt_iff_toInt_lt, Int32.le_iff_toInt_le, ← Int32.toInt_inj, Int64.lt_iff_toInt_lt, Int64.le_iff_toInt_le, ← Int64.toInt_inj, Int32.toInt_toInt64, Int32.reduceToInt, Int64.reduceToInt] at t_6_25
        refine lv_iload_n hx hb dX8_set_9 rfl (lv_at hl 1 rfl) ?_
        refine lv_iconst (v := 4) hx hb dX8_set_10 (by decide) ?_
        refine lv_icmp_ne (tgt := 18) hx hb dX8_set_11 (by decide) (fun c_11_26 => ?_) (fun c_11_26 => ?_)
        · have t_11_26 := c_11_26
          try simp only [kb_eq0, kb_ne0, lg_cmp_lt, lg_cmp_le, lg_cmp_gt, lg_cmp_ge, lg_cmp_eq] at t_11_26
          try simp only [Int32.lt_iff_toInt_lt, Int32.le_iff_toInt_le, ← Int32.toInt_inj, Int64.lt_iff_toInt_lt, Int64.le_iff_toInt_le, ← Int64.toInt_inj, Int32.toInt_toInt64, Int32.reduceToInt, Int64.reduceToInt] at t_11_26
          refine lv_iload_n hx hb dX8_set_18 rfl (lv_at hl 1 rfl) ?_
          refine lv_iconst (v := 1) hx hb dX8_set_19 (by decide) ?_
          refine lv_icmp_ne (tgt := 29) hx hb dX8_set_20 (by decide) (fun c_20_27 => ?_) (fun c_20_27 => ?_)
          · exact absurd (by decide) c_20_27
          · have t_20_27 := c_20_27
            try simp only [kb_eq0, kb_ne0, lg_cmp_lt, lg_cmp_le, lg_cmp_gt, lg_cmp_ge, lg_cmp_eq] at t_20_27
            try simp only [Int32.lt_iff_toInt_lt, Int32.le_iff_toInt_le, ← Int32.toInt_inj, Int64.lt_iff_toInt_lt, Int64.le_iff_toInt_le, ← Int64.toInt_inj, Int32.toInt_toInt64, Int32.reduceToInt, Int64.reduceToInt] at t_20_27
            refine lv_ldc2 (v := 137438953471) hx hb hown (hts (.constantLong RX8 90 (137438953471)) (List.mem_of_getElem? (i := 1) rfl)) dX8_set_23 ?_
            refine lv_goto (tgt := 43) hx hb dX8_set_26 (by decide) ?_
            refine lv_lstore (lv' := [(4, .long 137438953471), (0, .ref m0), (1, .int 1), (2, .long v)]) hx hb dX8_set_43 hl (by decide) rfl (fun ls hl => ?_)
            refine lv_iload_n hx hb dX8_set_45 rfl (lv_at hl 2 rfl) ?_
            refine lv_i2l hx hb dX8_set_46 rfl ?_
            refine lv_topl (fun x_29 ex_29 => ?_)
            obtain rfl : x_29 = 1 := ex_29.trans (by decide)
            refine lv_lconst (v := 0) hx hb dX8_set_47 (by decide) ?_
            refine lv_ldc2 (v := 5) hx hb hown (hts (.constantLong RX8 94 (5)) (List.mem_of_getElem? (i := 4) rfl)) dX8_set_48 ?_
            refine kCallI (wr := [(m0, .inr (8, [.ref mH, .int 0, .long 0, .int 0, .long 0, .int 0, .int 0, .int 0, .int 0, .int 0, .int 0, .long 0, .int 0, .int 0, .ref mI, .ref mJ, .ref mS, .ref mD, .int 0, .int 0, .int 0, .long 0, .ref mX, .int 0, .int 0, .int 0, .ref mA, .ref mB, .ref mW, .ref mL, .int 0]))]) (va_runS (As := [.long 1, .long 0, .long 5]) (rest := []) ⟨hx, hb, hml, hown, hts⟩ (r_in l D cI cL cB cZ cT _ 1 0 5) (va_cwS 3 hts gX8_set_X8_in rfl rfl rfl (by decide +kernel) ⟨Nat.le_of_ble_eq_true rfl, Nat.le_of_ble_eq_true rfl⟩) (kPreS hG hP hD [] rfl (by decide)) rfl rfl hl.1 rfl (lv_room (Nat.le_of_ble_eq_true rfl)) dX8_set_51 ⟨Nat.le_of_ble_eq_true rfl, Nat.le_of_ble_eq_true rfl⟩) hA hP hD hS [] [0] rfl rfl (by decide) (by decide) (fun r_30 u_r_30 H locs wr_30 hP hD hS => ?_)
            have hP : va_P D vwCl [(m0, .inr (8, [.ref mH, .int 0, .long 0, .int 0, .long 0, .int 0, .int 0, .int 0, .int 0, .int 0, .int 0, .long 0, .int 0, .int 0, .ref mI, .ref mJ, .ref mS, .ref mD, .int 0, .int 0, .int 0, .long 0, .ref mX, .int 0, .int 0, .int 0, .ref mA, .ref mB, .ref mW, .ref mL, .int 0]))] H := hP
            have hD : va_D A [(m0, .inr (8, [.ref mH, .int 0, .long 0, .int 0, .long 0, .int 0, .int 0, .int 0, .int 0, .int 0, .int 0, .long 0, .int 0, .int 0, .ref mI, .ref mJ, .ref mS, .ref mD, .int 0, .int 0, .int 0, .long 0, .ref mX, .int 0, .int 0, .int 0, .ref mA, .ref mB, .ref mW, .ref mL, .int 0]))] := hD
            try dsimp only at wr_30
            subst wr_30
            refine lv_if_eq (tgt := 67) hx hb dX8_set_54 (by decide) (fun c_54_30 => ?_) (fun c_54_30 => ?_)
            · have t_54_30 := c_54_30
              try simp only [kb_eq0, kb_ne0, lg_cmp_lt, lg_cmp_le, lg_cmp_gt, lg_cmp_ge, lg_cmp_eq] at t_54_30
              try simp only [Int32.lt_iff_toInt_lt, Int32.le_iff_toInt_le, ← Int32.toInt_inj, Int64.lt_iff_toInt_lt, Int64.le_iff_toInt_le, ← Int64.toInt_inj, Int32.toInt_toInt64, Int32.reduceToInt, Int64.reduceToInt] at t_54_30
              omega
            · have t_54_30 := c_54_30
              try simp only [kb_eq0, kb_ne0, lg_cmp_lt, lg_cmp_le, lg_cmp_gt, lg_cmp_ge, lg_cmp_eq] at t_54_30
              try simp only [Int32.lt_iff_toInt_lt, Int32.le_iff_toInt_le, ← Int32.toInt_inj, Int64.lt_iff_toInt_lt, Int64.le_iff_toInt_le, ← Int64.toInt_inj, Int32.toInt_toInt64, Int32.reduceToInt, Int64.reduceToInt] at t_54_30
              refine lv_lload_n hx hb dX8_set_57 rfl (lv_at hl 3 rfl) ?_
              refine lv_lconst (v := 0) hx hb dX8_set_58 (by decide) ?_
              refine lv_lload hx hb dX8_set_59 (lv_at hl 0 rfl) ?_
              refine kCallI (wr := [(m0, .inr (8, [.ref mH, .int 0, .long 0, .int 0, .long 0, .int 0, .int 0, .int 0, .int 0, .int 0, .int 0, .long 0, .int 0, .int 0, .ref mI, .ref mJ, .ref mS, .ref mD, .int 0, .int 0, .int 0, .long 0, .ref mX, .int 0, .int 0, .int 0, .ref mA, .ref mB, .ref mW, .ref mL, .int 0]))]) (va_runS (As := [.long v, .long 0, .long 137438953471]) (rest := []) ⟨hx, hb, hml, hown, hts⟩ (r_in l D cI cL cB cZ cT _ v 0 137438953471) (va_cwS 3 hts gX8_set_X8_in rfl rfl rfl (by decide +kernel) ⟨Nat.le_of_ble_eq_true rfl, Nat.le_of_ble_eq_true rfl⟩) (kPreS hG hP hD [] rfl (by decide)) rfl rfl hl.1 rfl (lv_room (Nat.le_of_ble_eq_true rfl)) dX8_set_61 ⟨Nat.le_of_ble_eq_true rfl, Nat.le_of_ble_eq_true rfl⟩) hA hP hD hS [] [0] rfl rfl (by decide) (by decide) (fun r_32 u_r_32 H locs wr_32 hP hD hS => ?_)
              have hP : va_P D vwCl [(m0, .inr (8, [.ref mH, .int 0, .long 0, .int 0, .long 0, .int 0, .int 0, .int 0, .int 0, .int 0, .int 0, .long 0, .int 0, .int 0, .ref mI, .ref mJ, .ref mS, .ref mD, .int 0, .int 0, .int 0, .long 0, .ref mX, .int 0, .int 0, .int 0, .ref mA, .ref mB, .ref mW, .ref mL, .int 0]))] H := hP
              have hD : va_D A [(m0, .inr (8, [.ref mH, .int 0, .long 0, .int 0, .long 0, .int 0, .int 0, .int 0, .int 0, .int 0, .int 0, .long 0, .int 0, .int 0, .ref mI, .ref mJ, .ref mS, .ref mD, .int 0, .int 0, .int 0, .long 0, .ref mX, .int 0, .int 0, .int 0, .ref mA, .ref mB, .ref mW, .ref mL, .int 0]))] := hD
              try dsimp only at wr_32
              subst wr_32
              refine lv_if_ne (tgt := 69) hx hb dX8_set_64 (by decide) (fun c_64_32 => ?_) (fun c_64_32 => ?_)
              · have t_64_32 := c_64_32
                try simp only [kb_eq0, kb_ne0, lg_cmp_lt, lg_cmp_le, lg_cmp_gt, lg_cmp_ge, lg_cmp_eq] at t_64_32
                try simp only [Int32.lt_iff_toInt_lt, Int32.le_iff_toInt_le, ← Int32.toInt_inj, Int64.lt_iff_toInt_lt, Int64.le_iff_toInt_le, ← Int64.toInt_inj, Int32.toInt_toInt64, Int32.reduceToInt, Int64.reduceToInt] at t_64_32
                refine lv_iload_n hx hb dX8_set_69 rfl (lv_at hl 2 rfl) ?_
                refine lv_tableIn (tgt := 122) (off := 52) hx hb dX8_set_70 (by decide) (by decide) (by decide) (by decide) ?_
                refine lv_aload_n hx hb dX8_set_122 rfl (lv_at hl 1 rfl) ?_
                refine lv_lload_n hx hb dX8_set_123 rfl (lv_at hl 3 rfl) ?_
                refine va_put (D := D) (ci := 8) (v := .long v) (ty := .long) (C := RX8) (T := TX8) (N := 31) hx hb hts iX8_set_X8 tyX8 tyX8_ok nmX8 hown hK hP hD hS 0 rfl rfl 2 (by decide) (hts (.fieldLink RX8 65 "TapeCalculatorModel" "acc" "J") (List.mem_of_getElem? (i := 6) rfl)) (fun _ h9 => h9) rfl (by decide +kernel) rfl rfl (Nat.le_of_ble_eq_true rfl) dX8_set_124 (fun H locs hP hD hS => ?_)
                have hP : va_P D vwCl [(m0, .inr (8, [.ref mH, .int 0, .long v, .int 0, .long 0, .int 0, .int 0, .int 0, .int 0, .int 0, .int 0, .long 0, .int 0, .int 0, .ref mI, .ref mJ, .ref mS, .ref mD, .int 0, .int 0, .int 0, .long 0, .ref mX, .int 0, .int 0, .int 0, .ref mA, .ref mB, .ref mW, .ref mL, .int 0]))] H := hP
                have hD : va_D A [(m0, .inr (8, [.ref mH, .int 0, .long v, .int 0, .long 0, .int 0, .int 0, .int 0, .int 0, .int 0, .int 0, .long 0, .int 0, .int 0, .ref mI, .ref mJ, .ref mS, .ref mD, .int 0, .int 0, .int 0, .long 0, .ref mX, .int 0, .int 0, .int 0, .ref mA, .ref mB, .ref mW, .ref mL, .int 0]))] := hD
                refine lv_goto (tgt := 180) hx hb dX8_set_127 (by decide) ?_
                refine lv_iconst (v := 1) hx hb dX8_set_180 (by decide) ?_
                refine kIret (u := (0, v, 0, 0, 0, 0)) hx hb hr rfl hlocks hS dX8_set_181 ?_ (hP.sub [0] rfl) (hD.sub [0] (by decide) rfl)
                have hm : (kMost 1).toInt = 137438953471 := by decide
                first
                  | exact (kif_t (by omega)).symm
                  | exact (kif_f (by omega)).symm
              · have t_64_32 := c_64_32
                try simp only [kb_eq0, kb_ne0, lg_cmp_lt, lg_cmp_le, lg_cmp_gt, lg_cmp_ge, lg_cmp_eq] at t_64_32
                try simp only [Int32.lt_iff_toInt_lt, Int32.le_iff_toInt_le, ← Int32.toInt_inj, Int64.lt_iff_toInt_lt, Int64.le_iff_toInt_le, ← Int64.toInt_inj, Int32.toInt_toInt64, Int32.reduceToInt, Int64.reduceToInt] at t_64_32
                refine lv_iconst (v := (-1)) hx hb dX8_set_67 (by decide) ?_
                refine kIret (u := (0, 0, 0, 0, 0, 0)) hx hb hr rfl hlocks hS dX8_set_68 ?_ (hP.sub [0] rfl) (hD.sub [0] (by decide) rfl)
                have hm : (kMost 1).toInt = 137438953471 := by decide
                first
                  | exact (kif_t (by omega)).symm
                  | exact (kif_f (by omega)).symm
        · exact absurd c_11_26 (by decide)
  · refine lv_iload_n hx hb dX8_set_0 rfl (lv_at hl 1 rfl) ?_
    refine lv_if_eq (tgt := 14) hx hb dX8_set_1 (by decide) (fun c_1_33 => ?_) (fun c_1_33 => ?_)
    · exact absurd c_1_33 (by decide)
    · have t_1_33 := c_1_33
      try simp only [kb_eq0, kb_ne0, lg_cmp_lt, lg_cmp_le, lg_cmp_gt, lg_cmp_ge, lg_cmp_eq] at t_1_33
      try simp only [Int32.lt_iff_toInt_lt, Int32.le_iff_toInt_le, ← Int32.toInt_inj, Int64.lt_iff_toInt_lt, Int64.le_iff_toInt_le, ← Int64.toInt_inj, Int32.toInt_toInt64, Int32.reduceToInt, Int64.reduceToInt] at t_1_33
      refine lv_iload_n hx hb dX8_set_4 rfl (lv_at hl 1 rfl) ?_
      refine lv_iconst (v := 2) hx hb dX8_set_5 (by decide) ?_
      refine lv_icmp_eq (tgt := 14) hx hb dX8_set_6 (by decide) (fun c_6_34 => ?_) (fun c_6_34 => ?_)
      · have t_6_34 := c_6_34
        try simp only [kb_eq0, kb_ne0, lg_cmp_lt, lg_cmp_le, lg_cmp_gt, lg_cmp_ge, lg_cmp_eq] at t_6_34
        try simp only [Int32.lt_iff_toInt_lt, Int32.le_iff_toInt_le, ← Int32.toInt_inj, Int64.lt_iff_toInt_lt, Int64.le_iff_toInt_le, ← Int64.toInt_inj, Int32.toInt_toInt64, Int32.reduceToInt, Int64.reduceToInt] at t_6_34
        refine lv_lconst (v := 1) hx hb dX8_set_14 (by decide) ?_
        refine lv_goto (tgt := 43) hx hb dX8_set_15 (by decide) ?_
        refine lv_lstore (lv' := [(4, .long 1), (0, .ref m0), (1, .int 2), (2, .long v)]) hx hb dX8_set_43 hl (by decide) rfl (fun ls hl => ?_)
        refine lv_iload_n hx hb dX8_set_45 rfl (lv_at hl 2 rfl) ?_
        refine lv_i2l hx hb dX8_set_46 rfl ?_
        refine lv_topl (fun x_36 ex_36 => ?_)
        obtain rfl : x_36 = 2 := ex_36.trans (by decide)
        refine lv_lconst (v := 0) hx hb dX8_set_47 (by decide) ?_
        refine lv_ldc2 (v := 5) hx hb hown (hts (.constantLong RX8 94 (5)) (List.mem_of_getElem? (i := 4) rfl)) dX8_set_48 ?_
        refine kCallI (wr := [(m0, .inr (8, [.ref mH, .int 0, .long 0, .int 0, .long 0, .int 0, .int 0, .int 0, .int 0, .int 0, .int 0, .long 0, .int 0, .int 0, .ref mI, .ref mJ, .ref mS, .ref mD, .int 0, .int 0, .int 0, .long 0, .ref mX, .int 0, .int 0, .int 0, .ref mA, .ref mB, .ref mW, .ref mL, .int 0]))]) (va_runS (As := [.long 2, .long 0, .long 5]) (rest := []) ⟨hx, hb, hml, hown, hts⟩ (r_in l D cI cL cB cZ cT _ 2 0 5) (va_cwS 3 hts gX8_set_X8_in rfl rfl rfl (by decide +kernel) ⟨Nat.le_of_ble_eq_true rfl, Nat.le_of_ble_eq_true rfl⟩) (kPreS hG hP hD [] rfl (by decide)) rfl rfl hl.1 rfl (lv_room (Nat.le_of_ble_eq_true rfl)) dX8_set_51 ⟨Nat.le_of_ble_eq_true rfl, Nat.le_of_ble_eq_true rfl⟩) hA hP hD hS [] [0] rfl rfl (by decide) (by decide) (fun r_37 u_r_37 H locs wr_37 hP hD hS => ?_)
        have hP : va_P D vwCl [(m0, .inr (8, [.ref mH, .int 0, .long 0, .int 0, .long 0, .int 0, .int 0, .int 0, .int 0, .int 0, .int 0, .long 0, .int 0, .int 0, .ref mI, .ref mJ, .ref mS, .ref mD, .int 0, .int 0, .int 0, .long 0, .ref mX, .int 0, .int 0, .int 0, .ref mA, .ref mB, .ref mW, .ref mL, .int 0]))] H := hP
        have hD : va_D A [(m0, .inr (8, [.ref mH, .int 0, .long 0, .int 0, .long 0, .int 0, .int 0, .int 0, .int 0, .int 0, .int 0, .long 0, .int 0, .int 0, .ref mI, .ref mJ, .ref mS, .ref mD, .int 0, .int 0, .int 0, .long 0, .ref mX, .int 0, .int 0, .int 0, .ref mA, .ref mB, .ref mW, .ref mL, .int 0]))] := hD
        try dsimp only at wr_37
        subst wr_37
        refine lv_if_eq (tgt := 67) hx hb dX8_set_54 (by decide) (fun c_54_37 => ?_) (fun c_54_37 => ?_)
        · have t_54_37 := c_54_37
          try simp only [kb_eq0, kb_ne0, lg_cmp_lt, lg_cmp_le, lg_cmp_gt, lg_cmp_ge, lg_cmp_eq] at t_54_37
          try simp only [Int32.lt_iff_toInt_lt, Int32.le_iff_toInt_le, ← Int32.toInt_inj, Int64.lt_iff_toInt_lt, Int64.le_iff_toInt_le, ← Int64.toInt_inj, Int32.toInt_toInt64, Int32.reduceToInt, Int64.reduceToInt] at t_54_37
          omega
        · have t_54_37 := c_54_37
          try simp only [kb_eq0, kb_ne0, lg_cmp_lt, lg_cmp_le, lg_cmp_gt, lg_cmp_ge, lg_cmp_eq] at t_54_37
          try simp only [Int32.lt_iff_toInt_lt, Int32.le_iff_toInt_le, ← Int32.toInt_inj, Int64.lt_iff_toInt_lt, Int64.le_iff_toInt_le, ← Int64.toInt_inj, Int32.toInt_toInt64, Int32.reduceToInt, Int64.reduceToInt] at t_54_37
          refine lv_lload_n hx hb dX8_set_57 rfl (lv_at hl 3 rfl) ?_
          refine lv_lconst (v := 0) hx hb dX8_set_58 (by decide) ?_
          refine lv_lload hx hb dX8_set_59 (lv_at hl 0 rfl) ?_
          refine kCallI (wr := [(m0, .inr (8, [.ref mH, .int 0, .long 0, .int 0, .long 0, .int 0, .int 0, .int 0, .int 0, .int 0, .int 0, .long 0, .int 0, .int 0, .ref mI, .ref mJ, .ref mS, .ref mD, .int 0, .int 0, .int 0, .long 0, .ref mX, .int 0, .int 0, .int 0, .ref mA, .ref mB, .ref mW, .ref mL, .int 0]))]) (va_runS (As := [.long v, .long 0, .long 1]) (rest := []) ⟨hx, hb, hml, hown, hts⟩ (r_in l D cI cL cB cZ cT _ v 0 1) (va_cwS 3 hts gX8_set_X8_in rfl rfl rfl (by decide +kernel) ⟨Nat.le_of_ble_eq_true rfl, Nat.le_of_ble_eq_true rfl⟩) (kPreS hG hP hD [] rfl (by decide)) rfl rfl hl.1 rfl (lv_room (Nat.le_of_ble_eq_true rfl)) dX8_set_61 ⟨Nat.le_of_ble_eq_true rfl, Nat.le_of_ble_eq_true rfl⟩) hA hP hD hS [] [0] rfl rfl (by decide) (by decide) (fun r_39 u_r_39 H locs wr_39 hP hD hS => ?_)
          have hP : va_P D vwCl [(m0, .inr (8, [.ref mH, .int 0, .long 0, .int 0, .long 0, .int 0, .int 0, .int 0, .int 0, .int 0, .int 0, .long 0, .int 0, .int 0, .ref mI, .ref mJ, .ref mS, .ref mD, .int 0, .int 0, .int 0, .long 0, .ref mX, .int 0, .int 0, .int 0, .ref mA, .ref mB, .ref mW, .ref mL, .int 0]))] H := hP
          have hD : va_D A [(m0, .inr (8, [.ref mH, .int 0, .long 0, .int 0, .long 0, .int 0, .int 0, .int 0, .int 0, .int 0, .int 0, .long 0, .int 0, .int 0, .ref mI, .ref mJ, .ref mS, .ref mD, .int 0, .int 0, .int 0, .long 0, .ref mX, .int 0, .int 0, .int 0, .ref mA, .ref mB, .ref mW, .ref mL, .int 0]))] := hD
          try dsimp only at wr_39
          subst wr_39
          refine lv_if_ne (tgt := 69) hx hb dX8_set_64 (by decide) (fun c_64_39 => ?_) (fun c_64_39 => ?_)
          · have t_64_39 := c_64_39
            try simp only [kb_eq0, kb_ne0, lg_cmp_lt, lg_cmp_le, lg_cmp_gt, lg_cmp_ge, lg_cmp_eq] at t_64_39
            try simp only [Int32.lt_iff_toInt_lt, Int32.le_iff_toInt_le, ← Int32.toInt_inj, Int64.lt_iff_toInt_lt, Int64.le_iff_toInt_le, ← Int64.toInt_inj, Int32.toInt_toInt64, Int32.reduceToInt, Int64.reduceToInt] at t_64_39
            refine lv_iload_n hx hb dX8_set_69 rfl (lv_at hl 2 rfl) ?_
            refine lv_tableIn (tgt := 130) (off := 60) hx hb dX8_set_70 (by decide) (by decide) (by decide) (by decide) ?_
            refine lv_aload_n hx hb dX8_set_130 rfl (lv_at hl 1 rfl) ?_
            refine lv_lload_n hx hb dX8_set_131 rfl (lv_at hl 3 rfl) ?_
            refine lv_lconst (v := 1) hx hb dX8_set_132 (by decide) ?_
            refine W.lcmp hx hb dX8_set_133 ?_
            refine lv_if_ne (tgt := 141) hx hb dX8_set_134 (by decide) (fun c_134_40 => ?_) (fun c_134_40 => ?_)
            · have t_134_40 := c_134_40
              try simp only [kb_eq0, kb_ne0, lg_cmp_lt, lg_cmp_le, lg_cmp_gt, lg_cmp_ge, lg_cmp_eq] at t_134_40
              try simp only [Int32.lt_iff_toInt_lt, Int32.le_iff_toInt_le, ← Int32.toInt_inj, Int64.lt_iff_toInt_lt, Int64.le_iff_toInt_le, ← Int64.toInt_inj, Int32.toInt_toInt64, Int32.reduceToInt, Int64.reduceToInt] at t_134_40
              refine lv_iconst (v := 0) hx hb dX8_set_141 (by decide) ?_
              refine va_put (D := D) (ci := 8) (v := .int 0) (ty := .boolean) (C := RX8) (T := TX8) (N := 31) hx hb hts iX8_set_X8 tyX8 tyX8_ok nmX8 hown hK hP hD hS 0 rfl rfl 3 (by decide) (hts (.fieldLink RX8 69 "TapeCalculatorModel" "mqMinus" "Z") (List.mem_of_getElem? (i := 7) rfl)) (fun _ h9 => h9) rfl (by decide +kernel) rfl rfl (Nat.le_of_ble_eq_true rfl) dX8_set_142 (fun H locs hP hD hS => ?_)
              have hP : va_P D vwCl [(m0, .inr (8, [.ref mH, .int 0, .long 0, .int 0, .long 0, .int 0, .int 0, .int 0, .int 0, .int 0, .int 0, .long 0, .int 0, .int 0, .ref mI, .ref mJ, .ref mS, .ref mD, .int 0, .int 0, .int 0, .long 0, .ref mX, .int 0, .int 0, .int 0, .ref mA, .ref mB, .ref mW, .ref mL, .int 0]))] H := hP
              have hD : va_D A [(m0, .inr (8, [.ref mH, .int 0, .long 0, .int 0, .long 0, .int 0, .int 0, .int 0, .int 0, .int 0, .int 0, .long 0, .int 0, .int 0, .ref mI, .ref mJ, .ref mS, .ref mD, .int 0, .int 0, .int 0, .long 0, .ref mX, .int 0, .int 0, .int 0, .ref mA, .ref mB, .ref mW, .ref mL, .int 0]))] := hD
              refine lv_goto (tgt := 180) hx hb dX8_set_145 (by decide) ?_
              refine lv_iconst (v := 1) hx hb dX8_set_180 (by decide) ?_
              refine kIret (u := (0, 0, 0, 0, 0, 0)) hx hb hr rfl hlocks hS dX8_set_181 ?_ (hP.sub [0] rfl) (hD.sub [0] (by decide) rfl)
              have hm : (kMost 2).toInt = 1 := by decide
              first
                | exact (kif_t (by omega)).symm
                | exact (kif_f (by omega)).symm
            · have t_134_40 := c_134_40
              try simp only [kb_eq0, kb_ne0, lg_cmp_lt, lg_cmp_le, lg_cmp_gt, lg_cmp_ge, lg_cmp_eq] at t_134_40
              try simp only [Int32.lt_iff_toInt_lt, Int32.le_iff_toInt_le, ← Int32.toInt_inj, Int64.lt_iff_toInt_lt, Int64.le_iff_toInt_le, ← Int64.toInt_inj, Int32.toInt_toInt64, Int32.reduceToInt, Int64.reduceToInt] at t_134_40
              refine lv_iconst (v := 1) hx hb dX8_set_137 (by decide) ?_
              refine lv_goto (tgt := 142) hx hb dX8_set_138 (by decide) ?_
              refine va_put (D := D) (ci := 8) (v := .int 1) (ty := .boolean) (C := RX8) (T := TX8) (N := 31) hx hb hts iX8_set_X8 tyX8 tyX8_ok nmX8 hown hK hP hD hS 0 rfl rfl 3 (by decide) (hts (.fieldLink RX8 69 "TapeCalculatorModel" "mqMinus" "Z") (List.mem_of_getElem? (i := 7) rfl)) (fun _ h9 => h9) rfl (by decide +kernel) rfl rfl (Nat.le_of_ble_eq_true rfl) dX8_set_142 (fun H locs hP hD hS => ?_)
              have hP : va_P D vwCl [(m0, .inr (8, [.ref mH, .int 0, .long 0, .int 1, .long 0, .int 0, .int 0, .int 0, .int 0, .int 0, .int 0, .long 0, .int 0, .int 0, .ref mI, .ref mJ, .ref mS, .ref mD, .int 0, .int 0, .int 0, .long 0, .ref mX, .int 0, .int 0, .int 0, .ref mA, .ref mB, .ref mW, .ref mL, .int 0]))] H := hP
              have hD : va_D A [(m0, .inr (8, [.ref mH, .int 0, .long 0, .int 1, .long 0, .int 0, .int 0, .int 0, .int 0, .int 0, .int 0, .long 0, .int 0, .int 0, .ref mI, .ref mJ, .ref mS, .ref mD, .int 0, .int 0, .int 0, .long 0, .ref mX, .int 0, .int 0, .int 0, .ref mA, .ref mB, .ref mW, .ref mL, .int 0]))] := hD
              refine lv_goto (tgt := 180) hx hb dX8_set_145 (by decide) ?_
              refine lv_iconst (v := 1) hx hb dX8_set_180 (by decide) ?_
              refine kIret (u := (0, 0, 1, 0, 0, 0)) hx hb hr rfl hlocks hS dX8_set_181 ?_ (hP.sub [0] rfl) (hD.sub [0] (by decide) rfl)
              have hm : (kMost 2).toInt = 1 := by decide
              first
                | exact (kif_t (by omega)).symm
                | exact (kif_f (by omega)).symm
          · have t_64_39 := c_64_39
            try simp only [kb_eq0, kb_ne0, lg_cmp_lt, lg_cmp_le, lg_cmp_gt, lg_cmp_ge, lg_cmp_eq] at t_64_39
            try simp only [Int32.lt_iff_toInt_lt, Int32.le_iff_toInt_le, ← Int32.toInt_inj, Int64.lt_iff_toInt_lt, Int64.le_iff_toInt_le, ← Int64.toInt_inj, Int32.toInt_toInt64, Int32.reduceToInt, Int64.reduceToInt] at t_64_39
            refine lv_iconst (v := (-1)) hx hb dX8_set_67 (by decide) ?_
            refine kIret (u := (0, 0, 0, 0, 0, 0)) hx hb hr rfl hlocks hS dX8_set_68 ?_ (hP.sub [0] rfl) (hD.sub [0] (by decide) rfl)
            have hm : (kMost 2).toInt = 1 := by decide
            first
              | exact (kif_t (by omega)).symm
              | exact (kif_f (by omega)).symm
      · exact absurd (by decide) c_6_34
  · refine lv_iload_n hx hb dX8_set_0 rfl (lv_at hl 1 rfl) ?_
    refine lv_if_eq (tgt := 14) hx hb dX8_set_1 (by decide) (fun c_1_41 => ?_) (fun c_1_41 => ?_)
    · exact absurd c_1_41 (by decide)
    · have t_1_41 := c_1_41
      try simp only [kb_eq0, kb_ne0, lg_cmp_lt, lg_cmp_le, lg_cmp_gt, lg_cmp_ge, lg_cmp_eq] at t_1_41
      try simp only [Int32.lt_iff_toInt_lt, Int32.le_iff_toInt_le, ← Int32.toInt_inj, Int64.lt_iff_toInt_lt, Int64.le_iff_toInt_le, ← Int64.toInt_inj, Int32.toInt_toInt64, Int32.reduceToInt, Int64.reduceToInt] at t_1_41
      refine lv_iload_n hx hb dX8_set_4 rfl (lv_at hl 1 rfl) ?_
      refine lv_iconst (v := 2) hx hb dX8_set_5 (by decide) ?_
      refine lv_icmp_eq (tgt := 14) hx hb dX8_set_6 (by decide) (fun c_6_42 => ?_) (fun c_6_42 => ?_)
      · exact absurd c_6_42 (by decide)
      · have t_6_42 := c_6_42
        try simp only [kb_eq0, kb_ne0, lg_cmp_lt, lg_cmp_le, lg_cmp_gt, lg_cmp_ge, lg_cmp_eq] at t_6_42
        try simp only [Int32.lt_iff_toInt_lt, Int32.le_iff_toInt_le, ← Int32.toInt_inj, Int64.lt_iff_toInt_lt, Int64.le_iff_toInt_le, ← Int64.toInt_inj, Int32.toInt_toInt64, Int32.reduceToInt, Int64.reduceToInt] at t_6_42
        refine lv_iload_n hx hb dX8_set_9 rfl (lv_at hl 1 rfl) ?_
        refine lv_iconst (v := 4) hx hb dX8_set_10 (by decide) ?_
        refine lv_icmp_ne (tgt := 18) hx hb dX8_set_11 (by decide) (fun c_11_43 => ?_) (fun c_11_43 => ?_)
        · have t_11_43 := c_11_43
          try simp only [kb_eq0, kb_ne0, lg_cmp_lt, lg_cmp_le, lg_cmp_gt, lg_cmp_ge, lg_cmp_eq] at t_11_43
          try simp only [Int32.lt_iff_toInt_lt, Int32.le_iff_toInt_le, ← Int32.toInt_inj, Int64.lt_iff_toInt_lt, Int64.le_iff_toInt_le, ← Int64.toInt_inj, Int32.toInt_toInt64, Int32.reduceToInt, Int64.reduceToInt] at t_11_43
          refine lv_iload_n hx hb dX8_set_18 rfl (lv_at hl 1 rfl) ?_
          refine lv_iconst (v := 1) hx hb dX8_set_19 (by decide) ?_
          refine lv_icmp_ne (tgt := 29) hx hb dX8_set_20 (by decide) (fun c_20_44 => ?_) (fun c_20_44 => ?_)
          · have t_20_44 := c_20_44
            try simp only [kb_eq0, kb_ne0, lg_cmp_lt, lg_cmp_le, lg_cmp_gt, lg_cmp_ge, lg_cmp_eq] at t_20_44
            try simp only [Int32.lt_iff_toInt_lt, Int32.le_iff_toInt_le, ← Int32.toInt_inj, Int64.lt_iff_toInt_lt, Int64.le_iff_toInt_le, ← Int64.toInt_inj, Int32.toInt_toInt64, Int32.reduceToInt, Int64.reduceToInt] at t_20_44
            refine lv_iload_n hx hb dX8_set_29 rfl (lv_at hl 1 rfl) ?_
            refine lv_iconst (v := 3) hx hb dX8_set_30 (by decide) ?_
            refine lv_icmp_ne (tgt := 40) hx hb dX8_set_31 (by decide) (fun c_31_45 => ?_) (fun c_31_45 => ?_)
            · exact absurd (by decide) c_31_45
            · have t_31_45 := c_31_45
              try simp only [kb_eq0, kb_ne0, lg_cmp_lt, lg_cmp_le, lg_cmp_gt, lg_cmp_ge, lg_cmp_eq] at t_31_45
              try simp only [Int32.lt_iff_toInt_lt, Int32.le_iff_toInt_le, ← Int32.toInt_inj, Int64.lt_iff_toInt_lt, Int64.le_iff_toInt_le, ← Int64.toInt_inj, Int32.toInt_toInt64, Int32.reduceToInt, Int64.reduceToInt] at t_31_45
              refine lv_ldc2 (v := 34359738367) hx hb hown (hts (.constantLong RX8 92 (34359738367)) (List.mem_of_getElem? (i := 2) rfl)) dX8_set_34 ?_
              refine lv_goto (tgt := 43) hx hb dX8_set_37 (by decide) ?_
              refine lv_lstore (lv' := [(4, .long 34359738367), (0, .ref m0), (1, .int 3), (2, .long v)]) hx hb dX8_set_43 hl (by decide) rfl (fun ls hl => ?_)
              refine lv_iload_n hx hb dX8_set_45 rfl (lv_at hl 2 rfl) ?_
              refine lv_i2l hx hb dX8_set_46 rfl ?_
              refine lv_topl (fun x_47 ex_47 => ?_)
              obtain rfl : x_47 = 3 := ex_47.trans (by decide)
              refine lv_lconst (v := 0) hx hb dX8_set_47 (by decide) ?_
              refine lv_ldc2 (v := 5) hx hb hown (hts (.constantLong RX8 94 (5)) (List.mem_of_getElem? (i := 4) rfl)) dX8_set_48 ?_
              refine kCallI (wr := [(m0, .inr (8, [.ref mH, .int 0, .long 0, .int 0, .long 0, .int 0, .int 0, .int 0, .int 0, .int 0, .int 0, .long 0, .int 0, .int 0, .ref mI, .ref mJ, .ref mS, .ref mD, .int 0, .int 0, .int 0, .long 0, .ref mX, .int 0, .int 0, .int 0, .ref mA, .ref mB, .ref mW, .ref mL, .int 0]))]) (va_runS (As := [.long 3, .long 0, .long 5]) (rest := []) ⟨hx, hb, hml, hown, hts⟩ (r_in l D cI cL cB cZ cT _ 3 0 5) (va_cwS 3 hts gX8_set_X8_in rfl rfl rfl (by decide +kernel) ⟨Nat.le_of_ble_eq_true rfl, Nat.le_of_ble_eq_true rfl⟩) (kPreS hG hP hD [] rfl (by decide)) rfl rfl hl.1 rfl (lv_room (Nat.le_of_ble_eq_true rfl)) dX8_set_51 ⟨Nat.le_of_ble_eq_true rfl, Nat.le_of_ble_eq_true rfl⟩) hA hP hD hS [] [0] rfl rfl (by decide) (by decide) (fun r_48 u_r_48 H locs wr_48 hP hD hS => ?_)
              have hP : va_P D vwCl [(m0, .inr (8, [.ref mH, .int 0, .long 0, .int 0, .long 0, .int 0, .int 0, .int 0, .int 0, .int 0, .int 0, .long 0, .int 0, .int 0, .ref mI, .ref mJ, .ref mS, .ref mD, .int 0, .int 0, .int 0, .long 0, .ref mX, .int 0, .int 0, .int 0, .ref mA, .ref mB, .ref mW, .ref mL, .int 0]))] H := hP
              have hD : va_D A [(m0, .inr (8, [.ref mH, .int 0, .long 0, .int 0, .long 0, .int 0, .int 0, .int 0, .int 0, .int 0, .int 0, .long 0, .int 0, .int 0, .ref mI, .ref mJ, .ref mS, .ref mD, .int 0, .int 0, .int 0, .long 0, .ref mX, .int 0, .int 0, .int 0, .ref mA, .ref mB, .ref mW, .ref mL, .int 0]))] := hD
              try dsimp only at wr_48
              subst wr_48
              refine lv_if_eq (tgt := 67) hx hb dX8_set_54 (by decide) (fun c_54_48 => ?_) (fun c_54_48 => ?_)
              · have t_54_48 := c_54_48
                try simp only [kb_eq0, kb_ne0, lg_cmp_lt, lg_cmp_le, lg_cmp_gt, lg_cmp_ge, lg_cmp_eq] at t_54_48
                try simp only [Int32.lt_iff_toInt_lt, Int32.le_iff_toInt_le, ← Int32.toInt_inj, Int64.lt_iff_toInt_lt, Int64.le_iff_toInt_le, ← Int64.toInt_inj, Int32.toInt_toInt64, Int32.reduceToInt, Int64.reduceToInt] at t_54_48
                omega
              · have t_54_48 := c_54_48
                try simp only [kb_eq0, kb_ne0, lg_cmp_lt, lg_cmp_le, lg_cmp_gt, lg_cmp_ge, lg_cmp_eq] at t_54_48
                try simp only [Int32.lt_iff_toInt_lt, Int32.le_iff_toInt_le, ← Int32.toInt_inj, Int64.lt_iff_toInt_lt, Int64.le_iff_toInt_le, ← Int64.toInt_inj, Int32.toInt_toInt64, Int32.reduceToInt, Int64.reduceToInt] at t_54_48
                refine lv_lload_n hx hb dX8_set_57 rfl (lv_at hl 3 rfl) ?_
                refine lv_lconst (v := 0) hx hb dX8_set_58 (by decide) ?_
                refine lv_lload hx hb dX8_set_59 (lv_at hl 0 rfl) ?_
                refine kCallI (wr := [(m0, .inr (8, [.ref mH, .int 0, .long 0, .int 0, .long 0, .int 0, .int 0, .int 0, .int 0, .int 0, .int 0, .long 0, .int 0, .int 0, .ref mI, .ref mJ, .ref mS, .ref mD, .int 0, .int 0, .int 0, .long 0, .ref mX, .int 0, .int 0, .int 0, .ref mA, .ref mB, .ref mW, .ref mL, .int 0]))]) (va_runS (As := [.long v, .long 0, .long 34359738367]) (rest := []) ⟨hx, hb, hml, hown, hts⟩ (r_in l D cI cL cB cZ cT _ v 0 34359738367) (va_cwS 3 hts gX8_set_X8_in rfl rfl rfl (by decide +kernel) ⟨Nat.le_of_ble_eq_true rfl, Nat.le_of_ble_eq_true rfl⟩) (kPreS hG hP hD [] rfl (by decide)) rfl rfl hl.1 rfl (lv_room (Nat.le_of_ble_eq_true rfl)) dX8_set_61 ⟨Nat.le_of_ble_eq_true rfl, Nat.le_of_ble_eq_true rfl⟩) hA hP hD hS [] [0] rfl rfl (by decide) (by decide) (fun r_50 u_r_50 H locs wr_50 hP hD hS => ?_)
                have hP : va_P D vwCl [(m0, .inr (8, [.ref mH, .int 0, .long 0, .int 0, .long 0, .int 0, .int 0, .int 0, .int 0, .int 0, .int 0, .long 0, .int 0, .int 0, .ref mI, .ref mJ, .ref mS, .ref mD, .int 0, .int 0, .int 0, .long 0, .ref mX, .int 0, .int 0, .int 0, .ref mA, .ref mB, .ref mW, .ref mL, .int 0]))] H := hP
                have hD : va_D A [(m0, .inr (8, [.ref mH, .int 0, .long 0, .int 0, .long 0, .int 0, .int 0, .int 0, .int 0, .int 0, .int 0, .long 0, .int 0, .int 0, .ref mI, .ref mJ, .ref mS, .ref mD, .int 0, .int 0, .int 0, .long 0, .ref mX, .int 0, .int 0, .int 0, .ref mA, .ref mB, .ref mW, .ref mL, .int 0]))] := hD
                try dsimp only at wr_50
                subst wr_50
                refine lv_if_ne (tgt := 69) hx hb dX8_set_64 (by decide) (fun c_64_50 => ?_) (fun c_64_50 => ?_)
                · have t_64_50 := c_64_50
                  try simp only [kb_eq0, kb_ne0, lg_cmp_lt, lg_cmp_le, lg_cmp_gt, lg_cmp_ge, lg_cmp_eq] at t_64_50
                  try simp only [Int32.lt_iff_toInt_lt, Int32.le_iff_toInt_le, ← Int32.toInt_inj, Int64.lt_iff_toInt_lt, Int64.le_iff_toInt_le, ← Int64.toInt_inj, Int32.toInt_toInt64, Int32.reduceToInt, Int64.reduceToInt] at t_64_50
                  refine lv_iload_n hx hb dX8_set_69 rfl (lv_at hl 2 rfl) ?_
                  refine lv_tableIn (tgt := 148) (off := 78) hx hb dX8_set_70 (by decide) (by decide) (by decide) (by decide) ?_
                  refine lv_aload_n hx hb dX8_set_148 rfl (lv_at hl 1 rfl) ?_
                  refine lv_lload_n hx hb dX8_set_149 rfl (lv_at hl 3 rfl) ?_
                  refine va_put (D := D) (ci := 8) (v := .long v) (ty := .long) (C := RX8) (T := TX8) (N := 31) hx hb hts iX8_set_X8 tyX8 tyX8_ok nmX8 hown hK hP hD hS 0 rfl rfl 4 (by decide) (hts (.fieldLink RX8 72 "TapeCalculatorModel" "mq" "J") (List.mem_of_getElem? (i := 8) rfl)) (fun _ h9 => h9) rfl (by decide +kernel) rfl rfl (Nat.le_of_ble_eq_true rfl) dX8_set_150 (fun H locs hP hD hS => ?_)
                  have hP : va_P D vwCl [(m0, .inr (8, [.ref mH, .int 0, .long 0, .int 0, .long v, .int 0, .int 0, .int 0, .int 0, .int 0, .int 0, .long 0, .int 0, .int 0, .ref mI, .ref mJ, .ref mS, .ref mD, .int 0, .int 0, .int 0, .long 0, .ref mX, .int 0, .int 0, .int 0, .ref mA, .ref mB, .ref mW, .ref mL, .int 0]))] H := hP
                  have hD : va_D A [(m0, .inr (8, [.ref mH, .int 0, .long 0, .int 0, .long v, .int 0, .int 0, .int 0, .int 0, .int 0, .int 0, .long 0, .int 0, .int 0, .ref mI, .ref mJ, .ref mS, .ref mD, .int 0, .int 0, .int 0, .long 0, .ref mX, .int 0, .int 0, .int 0, .ref mA, .ref mB, .ref mW, .ref mL, .int 0]))] := hD
                  refine lv_goto (tgt := 180) hx hb dX8_set_153 (by decide) ?_
                  refine lv_iconst (v := 1) hx hb dX8_set_180 (by decide) ?_
                  refine kIret (u := (0, 0, 0, v, 0, 0)) hx hb hr rfl hlocks hS dX8_set_181 ?_ (hP.sub [0] rfl) (hD.sub [0] (by decide) rfl)
                  have hm : (kMost 3).toInt = 34359738367 := by decide
                  first
                    | exact (kif_t (by omega)).symm
                    | exact (kif_f (by omega)).symm
                · have t_64_50 := c_64_50
                  try simp only [kb_eq0, kb_ne0, lg_cmp_lt, lg_cmp_le, lg_cmp_gt, lg_cmp_ge, lg_cmp_eq] at t_64_50
                  try simp only [Int32.lt_iff_toInt_lt, Int32.le_iff_toInt_le, ← Int32.toInt_inj, Int64.lt_iff_toInt_lt, Int64.le_iff_toInt_le, ← Int64.toInt_inj, Int32.toInt_toInt64, Int32.reduceToInt, Int64.reduceToInt] at t_64_50
                  refine lv_iconst (v := (-1)) hx hb dX8_set_67 (by decide) ?_
                  refine kIret (u := (0, 0, 0, 0, 0, 0)) hx hb hr rfl hlocks hS dX8_set_68 ?_ (hP.sub [0] rfl) (hD.sub [0] (by decide) rfl)
                  have hm : (kMost 3).toInt = 34359738367 := by decide
                  first
                    | exact (kif_t (by omega)).symm
                    | exact (kif_f (by omega)).symm
          · exact absurd c_20_44 (by decide)
        · exact absurd c_11_43 (by decide)
  · refine lv_iload_n hx hb dX8_set_0 rfl (lv_at hl 1 rfl) ?_
    refine lv_if_eq (tgt := 14) hx hb dX8_set_1 (by decide) (fun c_1_51 => ?_) (fun c_1_51 => ?_)
    · exact absurd c_1_51 (by decide)
    · have t_1_51 := c_1_51
      try simp only [kb_eq0, kb_ne0, lg_cmp_lt, lg_cmp_le, lg_cmp_gt, lg_cmp_ge, lg_cmp_eq] at t_1_51
      try simp only [Int32.lt_iff_toInt_lt, Int32.le_iff_toInt_le, ← Int32.toInt_inj, Int64.lt_iff_toInt_lt, Int64.le_iff_toInt_le, ← Int64.toInt_inj, Int32.toInt_toInt64, Int32.reduceToInt, Int64.reduceToInt] at t_1_51
      refine lv_iload_n hx hb dX8_set_4 rfl (lv_at hl 1 rfl) ?_
      refine lv_iconst (v := 2) hx hb dX8_set_5 (by decide) ?_
      refine lv_icmp_eq (tgt := 14) hx hb dX8_set_6 (by decide) (fun c_6_52 => ?_) (fun c_6_52 => ?_)
      · exact absurd c_6_52 (by decide)
      · have t_6_52 := c_6_52
        try simp only [kb_eq0, kb_ne0, lg_cmp_lt, lg_cmp_le, lg_cmp_gt, lg_cmp_ge, lg_cmp_eq] at t_6_52
        try simp only [Int32.lt_iff_toInt_lt, Int32.le_iff_toInt_le, ← Int32.toInt_inj, Int64.lt_iff_toInt_lt, Int64.le_iff_toInt_le, ← Int64.toInt_inj, Int32.toInt_toInt64, Int32.reduceToInt, Int64.reduceToInt] at t_6_52
        refine lv_iload_n hx hb dX8_set_9 rfl (lv_at hl 1 rfl) ?_
        refine lv_iconst (v := 4) hx hb dX8_set_10 (by decide) ?_
        refine lv_icmp_ne (tgt := 18) hx hb dX8_set_11 (by decide) (fun c_11_53 => ?_) (fun c_11_53 => ?_)
        · exact absurd (by decide) c_11_53
        · have t_11_53 := c_11_53
          try simp only [kb_eq0, kb_ne0, lg_cmp_lt, lg_cmp_le, lg_cmp_gt, lg_cmp_ge, lg_cmp_eq] at t_11_53
          try simp only [Int32.lt_iff_toInt_lt, Int32.le_iff_toInt_le, ← Int32.toInt_inj, Int64.lt_iff_toInt_lt, Int64.le_iff_toInt_le, ← Int64.toInt_inj, Int32.toInt_toInt64, Int32.reduceToInt, Int64.reduceToInt] at t_11_53
          refine lv_lconst (v := 1) hx hb dX8_set_14 (by decide) ?_
          refine lv_goto (tgt := 43) hx hb dX8_set_15 (by decide) ?_
          refine lv_lstore (lv' := [(4, .long 1), (0, .ref m0), (1, .int 4), (2, .long v)]) hx hb dX8_set_43 hl (by decide) rfl (fun ls hl => ?_)
          refine lv_iload_n hx hb dX8_set_45 rfl (lv_at hl 2 rfl) ?_
          refine lv_i2l hx hb dX8_set_46 rfl ?_
          refine lv_topl (fun x_55 ex_55 => ?_)
          obtain rfl : x_55 = 4 := ex_55.trans (by decide)
          refine lv_lconst (v := 0) hx hb dX8_set_47 (by decide) ?_
          refine lv_ldc2 (v := 5) hx hb hown (hts (.constantLong RX8 94 (5)) (List.mem_of_getElem? (i := 4) rfl)) dX8_set_48 ?_
          refine kCallI (wr := [(m0, .inr (8, [.ref mH, .int 0, .long 0, .int 0, .long 0, .int 0, .int 0, .int 0, .int 0, .int 0, .int 0, .long 0, .int 0, .int 0, .ref mI, .ref mJ, .ref mS, .ref mD, .int 0, .int 0, .int 0, .long 0, .ref mX, .int 0, .int 0, .int 0, .ref mA, .ref mB, .ref mW, .ref mL, .int 0]))]) (va_runS (As := [.long 4, .long 0, .long 5]) (rest := []) ⟨hx, hb, hml, hown, hts⟩ (r_in l D cI cL cB cZ cT _ 4 0 5) (va_cwS 3 hts gX8_set_X8_in rfl rfl rfl (by decide +kernel) ⟨Nat.le_of_ble_eq_true rfl, Nat.le_of_ble_eq_true rfl⟩) (kPreS hG hP hD [] rfl (by decide)) rfl rfl hl.1 rfl (lv_room (Nat.le_of_ble_eq_true rfl)) dX8_set_51 ⟨Nat.le_of_ble_eq_true rfl, Nat.le_of_ble_eq_true rfl⟩) hA hP hD hS [] [0] rfl rfl (by decide) (by decide) (fun r_56 u_r_56 H locs wr_56 hP hD hS => ?_)
          have hP : va_P D vwCl [(m0, .inr (8, [.ref mH, .int 0, .long 0, .int 0, .long 0, .int 0, .int 0, .int 0, .int 0, .int 0, .int 0, .long 0, .int 0, .int 0, .ref mI, .ref mJ, .ref mS, .ref mD, .int 0, .int 0, .int 0, .long 0, .ref mX, .int 0, .int 0, .int 0, .ref mA, .ref mB, .ref mW, .ref mL, .int 0]))] H := hP
          have hD : va_D A [(m0, .inr (8, [.ref mH, .int 0, .long 0, .int 0, .long 0, .int 0, .int 0, .int 0, .int 0, .int 0, .int 0, .long 0, .int 0, .int 0, .ref mI, .ref mJ, .ref mS, .ref mD, .int 0, .int 0, .int 0, .long 0, .ref mX, .int 0, .int 0, .int 0, .ref mA, .ref mB, .ref mW, .ref mL, .int 0]))] := hD
          try dsimp only at wr_56
          subst wr_56
          refine lv_if_eq (tgt := 67) hx hb dX8_set_54 (by decide) (fun c_54_56 => ?_) (fun c_54_56 => ?_)
          · have t_54_56 := c_54_56
            try simp only [kb_eq0, kb_ne0, lg_cmp_lt, lg_cmp_le, lg_cmp_gt, lg_cmp_ge, lg_cmp_eq] at t_54_56
            try simp only [Int32.lt_iff_toInt_lt, Int32.le_iff_toInt_le, ← Int32.toInt_inj, Int64.lt_iff_toInt_lt, Int64.le_iff_toInt_le, ← Int64.toInt_inj, Int32.toInt_toInt64, Int32.reduceToInt, Int64.reduceToInt] at t_54_56
            omega
          · have t_54_56 := c_54_56
            try simp only [kb_eq0, kb_ne0, lg_cmp_lt, lg_cmp_le, lg_cmp_gt, lg_cmp_ge, lg_cmp_eq] at t_54_56
            try simp only [Int32.lt_iff_toInt_lt, Int32.le_iff_toInt_le, ← Int32.toInt_inj, Int64.lt_iff_toInt_lt, Int64.le_iff_toInt_le, ← Int64.toInt_inj, Int32.toInt_toInt64, Int32.reduceToInt, Int64.reduceToInt] at t_54_56
            refine lv_lload_n hx hb dX8_set_57 rfl (lv_at hl 3 rfl) ?_
            refine lv_lconst (v := 0) hx hb dX8_set_58 (by decide) ?_
            refine lv_lload hx hb dX8_set_59 (lv_at hl 0 rfl) ?_
            refine kCallI (wr := [(m0, .inr (8, [.ref mH, .int 0, .long 0, .int 0, .long 0, .int 0, .int 0, .int 0, .int 0, .int 0, .int 0, .long 0, .int 0, .int 0, .ref mI, .ref mJ, .ref mS, .ref mD, .int 0, .int 0, .int 0, .long 0, .ref mX, .int 0, .int 0, .int 0, .ref mA, .ref mB, .ref mW, .ref mL, .int 0]))]) (va_runS (As := [.long v, .long 0, .long 1]) (rest := []) ⟨hx, hb, hml, hown, hts⟩ (r_in l D cI cL cB cZ cT _ v 0 1) (va_cwS 3 hts gX8_set_X8_in rfl rfl rfl (by decide +kernel) ⟨Nat.le_of_ble_eq_true rfl, Nat.le_of_ble_eq_true rfl⟩) (kPreS hG hP hD [] rfl (by decide)) rfl rfl hl.1 rfl (lv_room (Nat.le_of_ble_eq_true rfl)) dX8_set_61 ⟨Nat.le_of_ble_eq_true rfl, Nat.le_of_ble_eq_true rfl⟩) hA hP hD hS [] [0] rfl rfl (by decide) (by decide) (fun r_58 u_r_58 H locs wr_58 hP hD hS => ?_)
            have hP : va_P D vwCl [(m0, .inr (8, [.ref mH, .int 0, .long 0, .int 0, .long 0, .int 0, .int 0, .int 0, .int 0, .int 0, .int 0, .long 0, .int 0, .int 0, .ref mI, .ref mJ, .ref mS, .ref mD, .int 0, .int 0, .int 0, .long 0, .ref mX, .int 0, .int 0, .int 0, .ref mA, .ref mB, .ref mW, .ref mL, .int 0]))] H := hP
            have hD : va_D A [(m0, .inr (8, [.ref mH, .int 0, .long 0, .int 0, .long 0, .int 0, .int 0, .int 0, .int 0, .int 0, .int 0, .long 0, .int 0, .int 0, .ref mI, .ref mJ, .ref mS, .ref mD, .int 0, .int 0, .int 0, .long 0, .ref mX, .int 0, .int 0, .int 0, .ref mA, .ref mB, .ref mW, .ref mL, .int 0]))] := hD
            try dsimp only at wr_58
            subst wr_58
            refine lv_if_ne (tgt := 69) hx hb dX8_set_64 (by decide) (fun c_64_58 => ?_) (fun c_64_58 => ?_)
            · have t_64_58 := c_64_58
              try simp only [kb_eq0, kb_ne0, lg_cmp_lt, lg_cmp_le, lg_cmp_gt, lg_cmp_ge, lg_cmp_eq] at t_64_58
              try simp only [Int32.lt_iff_toInt_lt, Int32.le_iff_toInt_le, ← Int32.toInt_inj, Int64.lt_iff_toInt_lt, Int64.le_iff_toInt_le, ← Int64.toInt_inj, Int32.toInt_toInt64, Int32.reduceToInt, Int64.reduceToInt] at t_64_58
              refine lv_iload_n hx hb dX8_set_69 rfl (lv_at hl 2 rfl) ?_
              refine lv_tableIn (tgt := 156) (off := 86) hx hb dX8_set_70 (by decide) (by decide) (by decide) (by decide) ?_
              refine lv_aload_n hx hb dX8_set_156 rfl (lv_at hl 1 rfl) ?_
              refine lv_lload_n hx hb dX8_set_157 rfl (lv_at hl 3 rfl) ?_
              refine lv_lconst (v := 1) hx hb dX8_set_158 (by decide) ?_
              refine W.lcmp hx hb dX8_set_159 ?_
              refine lv_if_ne (tgt := 167) hx hb dX8_set_160 (by decide) (fun c_160_59 => ?_) (fun c_160_59 => ?_)
              · have t_160_59 := c_160_59
                try simp only [kb_eq0, kb_ne0, lg_cmp_lt, lg_cmp_le, lg_cmp_gt, lg_cmp_ge, lg_cmp_eq] at t_160_59
                try simp only [Int32.lt_iff_toInt_lt, Int32.le_iff_toInt_le, ← Int32.toInt_inj, Int64.lt_iff_toInt_lt, Int64.le_iff_toInt_le, ← Int64.toInt_inj, Int32.toInt_toInt64, Int32.reduceToInt, Int64.reduceToInt] at t_160_59
                refine lv_iconst (v := 0) hx hb dX8_set_167 (by decide) ?_
                refine va_put (D := D) (ci := 8) (v := .int 0) (ty := .boolean) (C := RX8) (T := TX8) (N := 31) hx hb hts iX8_set_X8 tyX8 tyX8_ok nmX8 hown hK hP hD hS 0 rfl rfl 5 (by decide) (hts (.fieldLink RX8 75 "TapeCalculatorModel" "over" "Z") (List.mem_of_getElem? (i := 9) rfl)) (fun _ h9 => h9) rfl (by decide +kernel) rfl rfl (Nat.le_of_ble_eq_true rfl) dX8_set_168 (fun H locs hP hD hS => ?_)
                have hP : va_P D vwCl [(m0, .inr (8, [.ref mH, .int 0, .long 0, .int 0, .long 0, .int 0, .int 0, .int 0, .int 0, .int 0, .int 0, .long 0, .int 0, .int 0, .ref mI, .ref mJ, .ref mS, .ref mD, .int 0, .int 0, .int 0, .long 0, .ref mX, .int 0, .int 0, .int 0, .ref mA, .ref mB, .ref mW, .ref mL, .int 0]))] H := hP
                have hD : va_D A [(m0, .inr (8, [.ref mH, .int 0, .long 0, .int 0, .long 0, .int 0, .int 0, .int 0, .int 0, .int 0, .int 0, .long 0, .int 0, .int 0, .ref mI, .ref mJ, .ref mS, .ref mD, .int 0, .int 0, .int 0, .long 0, .ref mX, .int 0, .int 0, .int 0, .ref mA, .ref mB, .ref mW, .ref mL, .int 0]))] := hD
                refine lv_goto (tgt := 180) hx hb dX8_set_171 (by decide) ?_
                refine lv_iconst (v := 1) hx hb dX8_set_180 (by decide) ?_
                refine kIret (u := (0, 0, 0, 0, 0, 0)) hx hb hr rfl hlocks hS dX8_set_181 ?_ (hP.sub [0] rfl) (hD.sub [0] (by decide) rfl)
                have hm : (kMost 4).toInt = 1 := by decide
                first
                  | exact (kif_t (by omega)).symm
                  | exact (kif_f (by omega)).symm
              · have t_160_59 := c_160_59
                try simp only [kb_eq0, kb_ne0, lg_cmp_lt, lg_cmp_le, lg_cmp_gt, lg_cmp_ge, lg_cmp_eq] at t_160_59
                try simp only [Int32.lt_iff_toInt_lt, Int32.le_iff_toInt_le, ← Int32.toInt_inj, Int64.lt_iff_toInt_lt, Int64.le_iff_toInt_le, ← Int64.toInt_inj, Int32.toInt_toInt64, Int32.reduceToInt, Int64.reduceToInt] at t_160_59
                refine lv_iconst (v := 1) hx hb dX8_set_163 (by decide) ?_
                refine lv_goto (tgt := 168) hx hb dX8_set_164 (by decide) ?_
                refine va_put (D := D) (ci := 8) (v := .int 1) (ty := .boolean) (C := RX8) (T := TX8) (N := 31) hx hb hts iX8_set_X8 tyX8 tyX8_ok nmX8 hown hK hP hD hS 0 rfl rfl 5 (by decide) (hts (.fieldLink RX8 75 "TapeCalculatorModel" "over" "Z") (List.mem_of_getElem? (i := 9) rfl)) (fun _ h9 => h9) rfl (by decide +kernel) rfl rfl (Nat.le_of_ble_eq_true rfl) dX8_set_168 (fun H locs hP hD hS => ?_)
                have hP : va_P D vwCl [(m0, .inr (8, [.ref mH, .int 0, .long 0, .int 0, .long 0, .int 1, .int 0, .int 0, .int 0, .int 0, .int 0, .long 0, .int 0, .int 0, .ref mI, .ref mJ, .ref mS, .ref mD, .int 0, .int 0, .int 0, .long 0, .ref mX, .int 0, .int 0, .int 0, .ref mA, .ref mB, .ref mW, .ref mL, .int 0]))] H := hP
                have hD : va_D A [(m0, .inr (8, [.ref mH, .int 0, .long 0, .int 0, .long 0, .int 1, .int 0, .int 0, .int 0, .int 0, .int 0, .long 0, .int 0, .int 0, .ref mI, .ref mJ, .ref mS, .ref mD, .int 0, .int 0, .int 0, .long 0, .ref mX, .int 0, .int 0, .int 0, .ref mA, .ref mB, .ref mW, .ref mL, .int 0]))] := hD
                refine lv_goto (tgt := 180) hx hb dX8_set_171 (by decide) ?_
                refine lv_iconst (v := 1) hx hb dX8_set_180 (by decide) ?_
                refine kIret (u := (0, 0, 0, 0, 1, 0)) hx hb hr rfl hlocks hS dX8_set_181 ?_ (hP.sub [0] rfl) (hD.sub [0] (by decide) rfl)
                have hm : (kMost 4).toInt = 1 := by decide
                first
                  | exact (kif_t (by omega)).symm
                  | exact (kif_f (by omega)).symm
            · have t_64_58 := c_64_58
              try simp only [kb_eq0, kb_ne0, lg_cmp_lt, lg_cmp_le, lg_cmp_gt, lg_cmp_ge, lg_cmp_eq] at t_64_58
              try simp only [Int32.lt_iff_toInt_lt, Int32.le_iff_toInt_le, ← Int32.toInt_inj, Int64.lt_iff_toInt_lt, Int64.le_iff_toInt_le, ← Int64.toInt_inj, Int32.toInt_toInt64, Int32.reduceToInt, Int64.reduceToInt] at t_64_58
              refine lv_iconst (v := (-1)) hx hb dX8_set_67 (by decide) ?_
              refine kIret (u := (0, 0, 0, 0, 0, 0)) hx hb hr rfl hlocks hS dX8_set_68 ?_ (hP.sub [0] rfl) (hD.sub [0] (by decide) rfl)
              have hm : (kMost 4).toInt = 1 := by decide
              first
                | exact (kif_t (by omega)).symm
                | exact (kif_f (by omega)).symm
  · refine lv_iload_n hx hb dX8_set_0 rfl (lv_at hl 1 rfl) ?_
    refine lv_if_eq (tgt := 14) hx hb dX8_set_1 (by decide) (fun c_1_60 => ?_) (fun c_1_60 => ?_)
    · exact absurd c_1_60 (by decide)
    · have t_1_60 := c_1_60
      try simp only [kb_eq0, kb_ne0, lg_cmp_lt, lg_cmp_le, lg_cmp_gt, lg_cmp_ge, lg_cmp_eq] at t_1_60
      try simp only [Int32.lt_iff_toInt_lt, Int32.le_iff_toInt_le, ← Int32.toInt_inj, Int64.lt_iff_toInt_lt, Int64.le_iff_toInt_le, ← Int64.toInt_inj, Int32.toInt_toInt64, Int32.reduceToInt, Int64.reduceToInt] at t_1_60
      refine lv_iload_n hx hb dX8_set_4 rfl (lv_at hl 1 rfl) ?_
      refine lv_iconst (v := 2) hx hb dX8_set_5 (by decide) ?_
      refine lv_icmp_eq (tgt := 14) hx hb dX8_set_6 (by decide) (fun c_6_61 => ?_) (fun c_6_61 => ?_)
      · exact absurd c_6_61 (by decide)
      · have t_6_61 := c_6_61
        try simp only [kb_eq0, kb_ne0, lg_cmp_lt, lg_cmp_le, lg_cmp_gt, lg_cmp_ge, lg_cmp_eq] at t_6_61
        try simp only [Int32.lt_iff_toInt_lt, Int32.le_iff_toInt_le, ← Int32.toInt_inj, Int64.lt_iff_toInt_lt, Int64.le_iff_toInt_le, ← Int64.toInt_inj, Int32.toInt_toInt64, Int32.reduceToInt, Int64.reduceToInt] at t_6_61
        refine lv_iload_n hx hb dX8_set_9 rfl (lv_at hl 1 rfl) ?_
        refine lv_iconst (v := 4) hx hb dX8_set_10 (by decide) ?_
        refine lv_icmp_ne (tgt := 18) hx hb dX8_set_11 (by decide) (fun c_11_62 => ?_) (fun c_11_62 => ?_)
        · have t_11_62 := c_11_62
          try simp only [kb_eq0, kb_ne0, lg_cmp_lt, lg_cmp_le, lg_cmp_gt, lg_cmp_ge, lg_cmp_eq] at t_11_62
          try simp only [Int32.lt_iff_toInt_lt, Int32.le_iff_toInt_le, ← Int32.toInt_inj, Int64.lt_iff_toInt_lt, Int64.le_iff_toInt_le, ← Int64.toInt_inj, Int32.toInt_toInt64, Int32.reduceToInt, Int64.reduceToInt] at t_11_62
          refine lv_iload_n hx hb dX8_set_18 rfl (lv_at hl 1 rfl) ?_
          refine lv_iconst (v := 1) hx hb dX8_set_19 (by decide) ?_
          refine lv_icmp_ne (tgt := 29) hx hb dX8_set_20 (by decide) (fun c_20_63 => ?_) (fun c_20_63 => ?_)
          · have t_20_63 := c_20_63
            try simp only [kb_eq0, kb_ne0, lg_cmp_lt, lg_cmp_le, lg_cmp_gt, lg_cmp_ge, lg_cmp_eq] at t_20_63
            try simp only [Int32.lt_iff_toInt_lt, Int32.le_iff_toInt_le, ← Int32.toInt_inj, Int64.lt_iff_toInt_lt, Int64.le_iff_toInt_le, ← Int64.toInt_inj, Int32.toInt_toInt64, Int32.reduceToInt, Int64.reduceToInt] at t_20_63
            refine lv_iload_n hx hb dX8_set_29 rfl (lv_at hl 1 rfl) ?_
            refine lv_iconst (v := 3) hx hb dX8_set_30 (by decide) ?_
            refine lv_icmp_ne (tgt := 40) hx hb dX8_set_31 (by decide) (fun c_31_64 => ?_) (fun c_31_64 => ?_)
            · have t_31_64 := c_31_64
              try simp only [kb_eq0, kb_ne0, lg_cmp_lt, lg_cmp_le, lg_cmp_gt, lg_cmp_ge, lg_cmp_eq] at t_31_64
              try simp only [Int32.lt_iff_toInt_lt, Int32.le_iff_toInt_le, ← Int32.toInt_inj, Int64.lt_iff_toInt_lt, Int64.le_iff_toInt_le, ← Int64.toInt_inj, Int32.toInt_toInt64, Int32.reduceToInt, Int64.reduceToInt] at t_31_64
              refine lv_ldc2 (v := 511) hx hb hown (hts (.constantLong RX8 47 (511)) (List.mem_of_getElem? (i := 3) rfl)) dX8_set_40 ?_
              refine lv_lstore (lv' := [(4, .long 511), (0, .ref m0), (1, .int 5), (2, .long v)]) hx hb dX8_set_43 hl (by decide) rfl (fun ls hl => ?_)
              refine lv_iload_n hx hb dX8_set_45 rfl (lv_at hl 2 rfl) ?_
              refine lv_i2l hx hb dX8_set_46 rfl ?_
              refine lv_topl (fun x_66 ex_66 => ?_)
              obtain rfl : x_66 = 5 := ex_66.trans (by decide)
              refine lv_lconst (v := 0) hx hb dX8_set_47 (by decide) ?_
              refine lv_ldc2 (v := 5) hx hb hown (hts (.constantLong RX8 94 (5)) (List.mem_of_getElem? (i := 4) rfl)) dX8_set_48 ?_
              refine kCallI (wr := [(m0, .inr (8, [.ref mH, .int 0, .long 0, .int 0, .long 0, .int 0, .int 0, .int 0, .int 0, .int 0, .int 0, .long 0, .int 0, .int 0, .ref mI, .ref mJ, .ref mS, .ref mD, .int 0, .int 0, .int 0, .long 0, .ref mX, .int 0, .int 0, .int 0, .ref mA, .ref mB, .ref mW, .ref mL, .int 0]))]) (va_runS (As := [.long 5, .long 0, .long 5]) (rest := []) ⟨hx, hb, hml, hown, hts⟩ (r_in l D cI cL cB cZ cT _ 5 0 5) (va_cwS 3 hts gX8_set_X8_in rfl rfl rfl (by decide +kernel) ⟨Nat.le_of_ble_eq_true rfl, Nat.le_of_ble_eq_true rfl⟩) (kPreS hG hP hD [] rfl (by decide)) rfl rfl hl.1 rfl (lv_room (Nat.le_of_ble_eq_true rfl)) dX8_set_51 ⟨Nat.le_of_ble_eq_true rfl, Nat.le_of_ble_eq_true rfl⟩) hA hP hD hS [] [0] rfl rfl (by decide) (by decide) (fun r_67 u_r_67 H locs wr_67 hP hD hS => ?_)
              have hP : va_P D vwCl [(m0, .inr (8, [.ref mH, .int 0, .long 0, .int 0, .long 0, .int 0, .int 0, .int 0, .int 0, .int 0, .int 0, .long 0, .int 0, .int 0, .ref mI, .ref mJ, .ref mS, .ref mD, .int 0, .int 0, .int 0, .long 0, .ref mX, .int 0, .int 0, .int 0, .ref mA, .ref mB, .ref mW, .ref mL, .int 0]))] H := hP
              have hD : va_D A [(m0, .inr (8, [.ref mH, .int 0, .long 0, .int 0, .long 0, .int 0, .int 0, .int 0, .int 0, .int 0, .int 0, .long 0, .int 0, .int 0, .ref mI, .ref mJ, .ref mS, .ref mD, .int 0, .int 0, .int 0, .long 0, .ref mX, .int 0, .int 0, .int 0, .ref mA, .ref mB, .ref mW, .ref mL, .int 0]))] := hD
              try dsimp only at wr_67
              subst wr_67
              refine lv_if_eq (tgt := 67) hx hb dX8_set_54 (by decide) (fun c_54_67 => ?_) (fun c_54_67 => ?_)
              · have t_54_67 := c_54_67
                try simp only [kb_eq0, kb_ne0, lg_cmp_lt, lg_cmp_le, lg_cmp_gt, lg_cmp_ge, lg_cmp_eq] at t_54_67
                try simp only [Int32.lt_iff_toInt_lt, Int32.le_iff_toInt_le, ← Int32.toInt_inj, Int64.lt_iff_toInt_lt, Int64.le_iff_toInt_le, ← Int64.toInt_inj, Int32.toInt_toInt64, Int32.reduceToInt, Int64.reduceToInt] at t_54_67
                omega
              · have t_54_67 := c_54_67
                try simp only [kb_eq0, kb_ne0, lg_cmp_lt, lg_cmp_le, lg_cmp_gt, lg_cmp_ge, lg_cmp_eq] at t_54_67
                try simp only [Int32.lt_iff_toInt_lt, Int32.le_iff_toInt_le, ← Int32.toInt_inj, Int64.lt_iff_toInt_lt, Int64.le_iff_toInt_le, ← Int64.toInt_inj, Int32.toInt_toInt64, Int32.reduceToInt, Int64.reduceToInt] at t_54_67
                refine lv_lload_n hx hb dX8_set_57 rfl (lv_at hl 3 rfl) ?_
                refine lv_lconst (v := 0) hx hb dX8_set_58 (by decide) ?_
                refine lv_lload hx hb dX8_set_59 (lv_at hl 0 rfl) ?_
                refine kCallI (wr := [(m0, .inr (8, [.ref mH, .int 0, .long 0, .int 0, .long 0, .int 0, .int 0, .int 0, .int 0, .int 0, .int 0, .long 0, .int 0, .int 0, .ref mI, .ref mJ, .ref mS, .ref mD, .int 0, .int 0, .int 0, .long 0, .ref mX, .int 0, .int 0, .int 0, .ref mA, .ref mB, .ref mW, .ref mL, .int 0]))]) (va_runS (As := [.long v, .long 0, .long 511]) (rest := []) ⟨hx, hb, hml, hown, hts⟩ (r_in l D cI cL cB cZ cT _ v 0 511) (va_cwS 3 hts gX8_set_X8_in rfl rfl rfl (by decide +kernel) ⟨Nat.le_of_ble_eq_true rfl, Nat.le_of_ble_eq_true rfl⟩) (kPreS hG hP hD [] rfl (by decide)) rfl rfl hl.1 rfl (lv_room (Nat.le_of_ble_eq_true rfl)) dX8_set_61 ⟨Nat.le_of_ble_eq_true rfl, Nat.le_of_ble_eq_true rfl⟩) hA hP hD hS [] [0] rfl rfl (by decide) (by decide) (fun r_69 u_r_69 H locs wr_69 hP hD hS => ?_)
                have hP : va_P D vwCl [(m0, .inr (8, [.ref mH, .int 0, .long 0, .int 0, .long 0, .int 0, .int 0, .int 0, .int 0, .int 0, .int 0, .long 0, .int 0, .int 0, .ref mI, .ref mJ, .ref mS, .ref mD, .int 0, .int 0, .int 0, .long 0, .ref mX, .int 0, .int 0, .int 0, .ref mA, .ref mB, .ref mW, .ref mL, .int 0]))] H := hP
                have hD : va_D A [(m0, .inr (8, [.ref mH, .int 0, .long 0, .int 0, .long 0, .int 0, .int 0, .int 0, .int 0, .int 0, .int 0, .long 0, .int 0, .int 0, .ref mI, .ref mJ, .ref mS, .ref mD, .int 0, .int 0, .int 0, .long 0, .ref mX, .int 0, .int 0, .int 0, .ref mA, .ref mB, .ref mW, .ref mL, .int 0]))] := hD
                try dsimp only at wr_69
                subst wr_69
                refine lv_if_ne (tgt := 69) hx hb dX8_set_64 (by decide) (fun c_64_69 => ?_) (fun c_64_69 => ?_)
                · have t_64_69 := c_64_69
                  try simp only [kb_eq0, kb_ne0, lg_cmp_lt, lg_cmp_le, lg_cmp_gt, lg_cmp_ge, lg_cmp_eq] at t_64_69
                  try simp only [Int32.lt_iff_toInt_lt, Int32.le_iff_toInt_le, ← Int32.toInt_inj, Int64.lt_iff_toInt_lt, Int64.le_iff_toInt_le, ← Int64.toInt_inj, Int32.toInt_toInt64, Int32.reduceToInt, Int64.reduceToInt] at t_64_69
                  refine lv_iload_n hx hb dX8_set_69 rfl (lv_at hl 2 rfl) ?_
                  refine lv_tableOut (tgt := 174) hx hb dX8_set_70 (by decide) (by decide) ?_
                  refine lv_aload_n hx hb dX8_set_174 rfl (lv_at hl 1 rfl) ?_
                  refine lv_lload_n hx hb dX8_set_175 rfl (lv_at hl 3 rfl) ?_
                  refine lv_l2i hx hb dX8_set_176 rfl ?_
                  refine va_put (D := D) (ci := 8) (v := .int v.toInt32) (ty := .int) (C := RX8) (T := TX8) (N := 31) hx hb hts iX8_set_X8 tyX8 tyX8_ok nmX8 hown hK hP hD hS 0 rfl rfl 6 (by decide) (hts (.fieldLink RX8 78 "TapeCalculatorModel" "place" "I") (List.mem_of_getElem? (i := 10) rfl)) (fun _ h9 => h9) rfl (by decide +kernel) rfl rfl (Nat.le_of_ble_eq_true rfl) dX8_set_177 (fun H locs hP hD hS => ?_)
                  have hP : va_P D vwCl [(m0, .inr (8, [.ref mH, .int 0, .long 0, .int 0, .long 0, .int 0, .int v.toInt32, .int 0, .int 0, .int 0, .int 0, .long 0, .int 0, .int 0, .ref mI, .ref mJ, .ref mS, .ref mD, .int 0, .int 0, .int 0, .long 0, .ref mX, .int 0, .int 0, .int 0, .ref mA, .ref mB, .ref mW, .ref mL, .int 0]))] H := hP
                  have hD : va_D A [(m0, .inr (8, [.ref mH, .int 0, .long 0, .int 0, .long 0, .int 0, .int v.toInt32, .int 0, .int 0, .int 0, .int 0, .long 0, .int 0, .int 0, .ref mI, .ref mJ, .ref mS, .ref mD, .int 0, .int 0, .int 0, .long 0, .ref mX, .int 0, .int 0, .int 0, .ref mA, .ref mB, .ref mW, .ref mL, .int 0]))] := hD
                  refine lv_iconst (v := 1) hx hb dX8_set_180 (by decide) ?_
                  refine kIret (u := (0, 0, 0, 0, 0, v.toInt32)) hx hb hr rfl hlocks hS dX8_set_181 ?_ (hP.sub [0] rfl) (hD.sub [0] (by decide) rfl)
                  have hm : (kMost 5).toInt = 511 := by decide
                  first
                    | exact (kif_t (by omega)).symm
                    | exact (kif_f (by omega)).symm
                · have t_64_69 := c_64_69
                  try simp only [kb_eq0, kb_ne0, lg_cmp_lt, lg_cmp_le, lg_cmp_gt, lg_cmp_ge, lg_cmp_eq] at t_64_69
                  try simp only [Int32.lt_iff_toInt_lt, Int32.le_iff_toInt_le, ← Int32.toInt_inj, Int64.lt_iff_toInt_lt, Int64.le_iff_toInt_le, ← Int64.toInt_inj, Int32.toInt_toInt64, Int32.reduceToInt, Int64.reduceToInt] at t_64_69
                  refine lv_iconst (v := (-1)) hx hb dX8_set_67 (by decide) ?_
                  refine kIret (u := (0, 0, 0, 0, 0, 0)) hx hb hr rfl hlocks hS dX8_set_68 ?_ (hP.sub [0] rfl) (hD.sub [0] (by decide) rfl)
                  have hm : (kMost 5).toInt = 511 := by decide
                  first
                    | exact (kif_t (by omega)).symm
                    | exact (kif_f (by omega)).symm
            · exact absurd c_31_64 (by decide)
          · exact absurd c_20_63 (by decide)
        · exact absurd c_11_62 (by decide)
set_option maxRecDepth 100000 in
theorem iX8_turn_X8 : ∀ w ∈ wsX80, w ∈ wsX8_turn := fun w h => (goodIn_r (big := wsX8_turn) wsX80 [7, 8, 9, 10, 11, 12, 13, 14, 15, 16, 17, 18, 19, 20, 21, 22, 23, 24, 25, 26, 27, 28, 29, 30, 31, 32, 33, 34, 35, 36, 37] rfl (by decide +kernel) w h).1
set_option maxRecDepth 100000 in
set_option maxHeartbeats 4000000 in
theorem r_turn (l : Launch) (D : va_G) (cI cL cB cZ cT : ClassId) (sz : Nat) (m0 mH mI mJ mS mD mX mA mB mW mL : Nat) (k z : Int32) : kM (S := (Int32)) l yX8_turn wsX8_turn ({ frames := 1, cells := 0, slots := 0, locals := 25 }) D (kT cI cL cB cZ cT) [.ref m0, .int k, .int z] [(m0, .inr (8, [.ref mH, .int 0, .long 0, .int 0, .long 0, .int 0, .int 0, .int 0, .int 0, .int 0, .int 0, .long 0, .int 0, .int 0, .ref mI, .ref mJ, .ref mS, .ref mD, .int 0, .int 0, .int 0, .long 0, .ref mX, .int 0, .int 0, .int 0, .ref mA, .ref mB, .ref mW, .ref mL, .int 0]))] sz eI (fun r _ => r = (kif (1 ≤ k.toInt ∧ k.toInt ≤ 4) 0 (-1))) (fun u => [(m0, .inr (8, [.ref mH, .int 0, .long 0, .int 0, .long 0, .int 0, .int 0, .int 0, .int u, .int 0, .int 0, .long 0, .int 0, .int 0, .ref mI, .ref mJ, .ref mS, .ref mD, .int 0, .int 0, .int 0, .long 0, .ref mX, .int 0, .int 0, .int 0, .ref mA, .ref mB, .ref mW, .ref mL, .int 0]))]) 0 0 := by
  refine kStart (cc := cX8_turn) (maxL := 4) (ret := (some .int)) (own := RX8) (by decide) rfl rfl (Nat.le_of_ble_eq_true rfl) ?_
  intro p e s m args below meth c A ls hx hb hr hml hown hts hlocks hnm hsz hA hG hP hD hS hl
  have hK := hG.1
  have hl : lv_has ls 4 [(0, .ref m0), (1, .int k), (2, .int z)] := hl
  rcases ksw_1_4 k with hsw | rfl | rfl | rfl | rfl
  · refine lv_iload_n hx hb dX8_turn_0 rfl (lv_at hl 1 rfl) ?_
    refine lv_i2l hx hb dX8_turn_1 rfl ?_
    refine lv_lconst (v := 1) hx hb dX8_turn_2 (by decide) ?_
    refine lv_ldc2 (v := 4) hx hb hown (hts (.constantLong RX8 96 (4)) (List.mem_of_getElem? (i := 1) rfl)) dX8_turn_3 ?_
    refine kCallI (wr := [(m0, .inr (8, [.ref mH, .int 0, .long 0, .int 0, .long 0, .int 0, .int 0, .int 0, .int 0, .int 0, .int 0, .long 0, .int 0, .int 0, .ref mI, .ref mJ, .ref mS, .ref mD, .int 0, .int 0, .int 0, .long 0, .ref mX, .int 0, .int 0, .int 0, .ref mA, .ref mB, .ref mW, .ref mL, .int 0]))]) (va_runS (As := [.long k.toInt64, .long 1, .long 4]) (rest := []) ⟨hx, hb, hml, hown, hts⟩ (r_in l D cI cL cB cZ cT _ (k.toInt64) 1 4) (va_cwS 3 hts gX8_turn_X8_in rfl rfl rfl (by decide +kernel) ⟨Nat.le_of_ble_eq_true rfl, Nat.le_of_ble_eq_true rfl⟩) (kPreS hG hP hD [] rfl (by decide)) rfl rfl hl.1 rfl (lv_room (Nat.le_of_ble_eq_true rfl)) dX8_turn_6 ⟨Nat.le_of_ble_eq_true rfl, Nat.le_of_ble_eq_true rfl⟩) hA hP hD hS [] [0] rfl rfl (by decide) (by decide) (fun r_1 u_r_1 H locs wr_1 hP hD hS => ?_)
    have hP : va_P D vwCl [(m0, .inr (8, [.ref mH, .int 0, .long 0, .int 0, .long 0, .int 0, .int 0, .int 0, .int 0, .int 0, .int 0, .long 0, .int 0, .int 0, .ref mI, .ref mJ, .ref mS, .ref mD, .int 0, .int 0, .int 0, .long 0, .ref mX, .int 0, .int 0, .int 0, .ref mA, .ref mB, .ref mW, .ref mL, .int 0]))] H := hP
    have hD : va_D A [(m0, .inr (8, [.ref mH, .int 0, .long 0, .int 0, .long 0, .int 0, .int 0, .int 0, .int 0, .int 0, .int 0, .long 0, .int 0, .int 0, .ref mI, .ref mJ, .ref mS, .ref mD, .int 0, .int 0, .int 0, .long 0, .ref mX, .int 0, .int 0, .int 0, .ref mA, .ref mB, .ref mW, .ref mL, .int 0]))] := hD
    try dsimp only at wr_1
    subst wr_1
    refine lv_if_ne (tgt := 14) hx hb dX8_turn_9 (by decide) (fun c_9_1 => ?_) (fun c_9_1 => ?_)
    · have t_9_1 := c_9_1
      try simp only [kb_eq0, kb_ne0, lg_cmp_lt, lg_cmp_le, lg_cmp_gt, lg_cmp_ge, lg_cmp_eq] at t_9_1
      try simp only [Int32.lt_iff_toInt_lt, Int32.le_iff_toInt_le, ← Int32.toInt_inj, Int64.lt_iff_toInt_lt, Int64.le_iff_toInt_le, ← Int64.toInt_inj, Int32.toInt_toInt64, Int32.reduceToInt, Int64.reduceToInt] at t_9_1
      omega
    · have t_9_1 := c_9_1
      try simp only [kb_eq0, kb_ne0, lg_cmp_lt, lg_cmp_le, lg_cmp_gt, lg_cmp_ge, lg_cmp_eq] at t_9_1
      try simp only [Int32.lt_iff_toInt_lt, Int32.le_iff_toInt_le, ← Int32.toInt_inj, Int64.lt_iff_toInt_lt, Int64.le_iff_toInt_le, ← Int64.toInt_inj, Int32.toInt_toInt64, Int32.reduceToInt, Int64.reduceToInt] at t_9_1
      refine lv_iconst (v := (-1)) hx hb dX8_turn_12 (by decide) ?_
      refine kIret (u := 0) hx hb hr rfl hlocks hS dX8_turn_13 ?_ (hP.sub [0] rfl) (hD.sub [0] (by decide) rfl)
      first
        | exact (kif_t (by decide)).symm
        | exact (kif_t (by omega)).symm
        | exact (kif_f (by omega)).symm
  · refine lv_iload_n hx hb dX8_turn_0 rfl (lv_at hl 1 rfl) ?_
    refine lv_i2l hx hb dX8_turn_1 rfl ?_
    refine lv_topl (fun x_3 ex_3 => ?_)
    obtain rfl : x_3 = 1 := ex_3.trans (by decide)
    refine lv_lconst (v := 1) hx hb dX8_turn_2 (by decide) ?_
    refine lv_ldc2 (v := 4) hx hb hown (hts (.constantLong RX8 96 (4)) (List.mem_of_getElem? (i := 1) rfl)) dX8_turn_3 ?_
    refine kCallI (wr := [(m0, .inr (8, [.ref mH, .int 0, .long 0, .int 0, .long 0, .int 0, .int 0, .int 0, .int 0, .int 0, .int 0, .long 0, .int 0, .int 0, .ref mI, .ref mJ, .ref mS, .ref mD, .int 0, .int 0, .int 0, .long 0, .ref mX, .int 0, .int 0, .int 0, .ref mA, .ref mB, .ref mW, .ref mL, .int 0]))]) (va_runS (As := [.long 1, .long 1, .long 4]) (rest := []) ⟨hx, hb, hml, hown, hts⟩ (r_in l D cI cL cB cZ cT _ 1 1 4) (va_cwS 3 hts gX8_turn_X8_in rfl rfl rfl (by decide +kernel) ⟨Nat.le_of_ble_eq_true rfl, Nat.le_of_ble_eq_true rfl⟩) (kPreS hG hP hD [] rfl (by decide)) rfl rfl hl.1 rfl (lv_room (Nat.le_of_ble_eq_true rfl)) dX8_turn_6 ⟨Nat.le_of_ble_eq_true rfl, Nat.le_of_ble_eq_true rfl⟩) hA hP hD hS [] [0] rfl rfl (by decide) (by decide) (fun r_4 u_r_4 H locs wr_4 hP hD hS => ?_)
    have hP : va_P D vwCl [(m0, .inr (8, [.ref mH, .int 0, .long 0, .int 0, .long 0, .int 0, .int 0, .int 0, .int 0, .int 0, .int 0, .long 0, .int 0, .int 0, .ref mI, .ref mJ, .ref mS, .ref mD, .int 0, .int 0, .int 0, .long 0, .ref mX, .int 0, .int 0, .int 0, .ref mA, .ref mB, .ref mW, .ref mL, .int 0]))] H := hP
    have hD : va_D A [(m0, .inr (8, [.ref mH, .int 0, .long 0, .int 0, .long 0, .int 0, .int 0, .int 0, .int 0, .int 0, .int 0, .long 0, .int 0, .int 0, .ref mI, .ref mJ, .ref mS, .ref mD, .int 0, .int 0, .int 0, .long 0, .ref mX, .int 0, .int 0, .int 0, .ref mA, .ref mB, .ref mW, .ref mL, .int 0]))] := hD
    try dsimp only at wr_4
    subst wr_4
    refine lv_if_ne (tgt := 14) hx hb dX8_turn_9 (by decide) (fun c_9_4 => ?_) (fun c_9_4 => ?_)
    · have t_9_4 := c_9_4
      try simp only [kb_eq0, kb_ne0, lg_cmp_lt, lg_cmp_le, lg_cmp_gt, lg_cmp_ge, lg_cmp_eq] at t_9_4
      try simp only [Int32.lt_iff_toInt_lt, Int32.le_iff_toInt_le, ← Int32.toInt_inj, Int64.lt_iff_toInt_lt, Int64.le_iff_toInt_le, ← Int64.toInt_inj, Int32.toInt_toInt64, Int32.reduceToInt, Int64.reduceToInt] at t_9_4
      refine lv_aload_n hx hb dX8_turn_14 rfl (lv_at hl 0 rfl) ?_
      refine va_get (D := D) (ci := 8) (v := .int 0) (C := RX8) (T := TX8) (N := 31) hx hb hts iX8_turn_X8 hown hK hP 0 rfl rfl 8 (by decide) (hts (.fieldLink RX8 98 "TapeCalculatorModel" "switches" "I") (List.mem_of_getElem? (i := 2) rfl)) (fun _ h9 => h9) rfl dX8_turn_15 ?_
      refine lv_iload_n hx hb dX8_turn_18 rfl (lv_at hl 1 rfl) ?_
      refine lv_iconst (v := 1) hx hb dX8_turn_19 (by decide) ?_
      refine lv_isub hx hb dX8_turn_20 ?_
      refine lv_topi (fun x_6 ex_6 => ?_)
      obtain rfl : x_6 = 0 := ex_6.trans (by decide)
      refine lv_ishr hx hb dX8_turn_21 ?_
      refine lv_topi (fun x_7 ex_7 => ?_)
      obtain rfl : x_7 = 0 := ex_7.trans (by decide)
      refine lv_iconst (v := 1) hx hb dX8_turn_22 (by decide) ?_
      refine lv_iand hx hb dX8_turn_23 ?_
      refine lv_topi (fun x_8 ex_8 => ?_)
      obtain rfl : x_8 = 0 := ex_8.trans (by decide)
      refine lv_istore_n (lv' := [(3, .int 0), (0, .ref m0), (1, .int 1), (2, .int z)]) hx hb dX8_turn_24 rfl hl (by decide) rfl (fun ls hl => ?_)
      refine lv_aload_n hx hb dX8_turn_25 rfl (lv_at hl 1 rfl) ?_
      refine lv_iload_n hx hb dX8_turn_26 rfl (lv_at hl 3 rfl) ?_
      refine lv_if_eq (tgt := 43) hx hb dX8_turn_27 (by decide) (fun c_27_8 => ?_) (fun c_27_8 => ?_)
      · have t_27_8 := c_27_8
        try simp only [kb_eq0, kb_ne0, lg_cmp_lt, lg_cmp_le, lg_cmp_gt, lg_cmp_ge, lg_cmp_eq] at t_27_8
        try simp only [Int32.lt_iff_toInt_lt, Int32.le_iff_toInt_le, ← Int32.toInt_inj, Int64.lt_iff_toInt_lt, Int64.le_iff_toInt_le, ← Int64.toInt_inj, Int32.toInt_toInt64, Int32.reduceToInt, Int64.reduceToInt] at t_27_8
        refine lv_aload_n hx hb dX8_turn_43 rfl (lv_at hl 1 rfl) ?_
        refine va_get (D := D) (ci := 8) (v := .int 0) (C := RX8) (T := TX8) (N := 31) hx hb hts iX8_turn_X8 hown hK hP 0 rfl rfl 8 (by decide) (hts (.fieldLink RX8 98 "TapeCalculatorModel" "switches" "I") (List.mem_of_getElem? (i := 2) rfl)) (fun _ h9 => h9) rfl dX8_turn_44 ?_
        refine lv_iconst (v := 1) hx hb dX8_turn_47 (by decide) ?_
        refine lv_iload_n hx hb dX8_turn_48 rfl (lv_at hl 2 rfl) ?_
        refine lv_iconst (v := 1) hx hb dX8_turn_49 (by decide) ?_
        refine lv_isub hx hb dX8_turn_50 ?_
        refine lv_topi (fun x_10 ex_10 => ?_)
        obtain rfl : x_10 = 0 := ex_10.trans (by decide)
        refine lv_ishl hx hb dX8_turn_51 ?_
        refine lv_topi (fun x_11 ex_11 => ?_)
        obtain rfl : x_11 = 1 := ex_11.trans (by decide)
        refine lv_iconst (v := (-1)) hx hb dX8_turn_52 (by decide) ?_
        refine lv_ixor hx hb dX8_turn_53 ?_
        refine lv_topi (fun x_12 ex_12 => ?_)
        obtain rfl : x_12 = (-2) := ex_12.trans (by decide)
        refine lv_iand hx hb dX8_turn_54 ?_
        refine lv_topi (fun x_13 ex_13 => ?_)
        obtain rfl : x_13 = 0 := ex_13.trans (by decide)
        refine va_put (D := D) (ci := 8) (v := .int 0) (ty := .int) (C := RX8) (T := TX8) (N := 31) hx hb hts iX8_turn_X8 tyX8 tyX8_ok nmX8 hown hK hP hD hS 0 rfl rfl 8 (by decide) (hts (.fieldLink RX8 98 "TapeCalculatorModel" "switches" "I") (List.mem_of_getElem? (i := 2) rfl)) (fun _ h9 => h9) rfl (by decide +kernel) rfl rfl (Nat.le_of_ble_eq_true rfl) dX8_turn_55 (fun H locs hP hD hS => ?_)
        have hP : va_P D vwCl [(m0, .inr (8, [.ref mH, .int 0, .long 0, .int 0, .long 0, .int 0, .int 0, .int 0, .int 0, .int 0, .int 0, .long 0, .int 0, .int 0, .ref mI, .ref mJ, .ref mS, .ref mD, .int 0, .int 0, .int 0, .long 0, .ref mX, .int 0, .int 0, .int 0, .ref mA, .ref mB, .ref mW, .ref mL, .int 0]))] H := hP
        have hD : va_D A [(m0, .inr (8, [.ref mH, .int 0, .long 0, .int 0, .long 0, .int 0, .int 0, .int 0, .int 0, .int 0, .int 0, .long 0, .int 0, .int 0, .ref mI, .ref mJ, .ref mS, .ref mD, .int 0, .int 0, .int 0, .long 0, .ref mX, .int 0, .int 0, .int 0, .ref mA, .ref mB, .ref mW, .ref mL, .int 0]))] := hD
        refine lv_iload_n hx hb dX8_turn_58 rfl (lv_at hl 0 rfl) ?_
        refine kIret (u := 0) hx hb hr rfl hlocks hS dX8_turn_59 ?_ (hP.sub [0] rfl) (hD.sub [0] (by decide) rfl)
        first
          | exact (kif_t (by decide)).symm
          | exact (kif_t (by omega)).symm
          | exact (kif_f (by omega)).symm
      · have t_27_8 := c_27_8
        try simp only [kb_eq0, kb_ne0, lg_cmp_lt, lg_cmp_le, lg_cmp_gt, lg_cmp_ge, lg_cmp_eq] at t_27_8
        try simp only [Int32.lt_iff_toInt_lt, Int32.le_iff_toInt_le, ← Int32.toInt_inj, Int64.lt_iff_toInt_lt, Int64.le_iff_toInt_le, ← Int64.toInt_inj, Int32.toInt_toInt64, Int32.reduceToInt, Int64.reduceToInt] at t_27_8
        refine lv_aload_n hx hb dX8_turn_30 rfl (lv_at hl 1 rfl) ?_
        refine va_get (D := D) (ci := 8) (v := .int 0) (C := RX8) (T := TX8) (N := 31) hx hb hts iX8_turn_X8 hown hK hP 0 rfl rfl 8 (by decide) (hts (.fieldLink RX8 98 "TapeCalculatorModel" "switches" "I") (List.mem_of_getElem? (i := 2) rfl)) (fun _ h9 => h9) rfl dX8_turn_31 ?_
        refine lv_iconst (v := 1) hx hb dX8_turn_34 (by decide) ?_
        refine lv_iload_n hx hb dX8_turn_35 rfl (lv_at hl 2 rfl) ?_
        refine lv_iconst (v := 1) hx hb dX8_turn_36 (by decide) ?_
        refine lv_isub hx hb dX8_turn_37 ?_
        refine lv_topi (fun x_14 ex_14 => ?_)
        obtain rfl : x_14 = 0 := ex_14.trans (by decide)
        refine lv_ishl hx hb dX8_turn_38 ?_
        refine lv_topi (fun x_15 ex_15 => ?_)
        obtain rfl : x_15 = 1 := ex_15.trans (by decide)
        refine lv_ior hx hb dX8_turn_39 ?_
        refine lv_topi (fun x_16 ex_16 => ?_)
        obtain rfl : x_16 = 1 := ex_16.trans (by decide)
        refine lv_goto (tgt := 55) hx hb dX8_turn_40 (by decide) ?_
        refine va_put (D := D) (ci := 8) (v := .int 1) (ty := .int) (C := RX8) (T := TX8) (N := 31) hx hb hts iX8_turn_X8 tyX8 tyX8_ok nmX8 hown hK hP hD hS 0 rfl rfl 8 (by decide) (hts (.fieldLink RX8 98 "TapeCalculatorModel" "switches" "I") (List.mem_of_getElem? (i := 2) rfl)) (fun _ h9 => h9) rfl (by decide +kernel) rfl rfl (Nat.le_of_ble_eq_true rfl) dX8_turn_55 (fun H locs hP hD hS => ?_)
        have hP : va_P D vwCl [(m0, .inr (8, [.ref mH, .int 0, .long 0, .int 0, .long 0, .int 0, .int 0, .int 0, .int 1, .int 0, .int 0, .long 0, .int 0, .int 0, .ref mI, .ref mJ, .ref mS, .ref mD, .int 0, .int 0, .int 0, .long 0, .ref mX, .int 0, .int 0, .int 0, .ref mA, .ref mB, .ref mW, .ref mL, .int 0]))] H := hP
        have hD : va_D A [(m0, .inr (8, [.ref mH, .int 0, .long 0, .int 0, .long 0, .int 0, .int 0, .int 0, .int 1, .int 0, .int 0, .long 0, .int 0, .int 0, .ref mI, .ref mJ, .ref mS, .ref mD, .int 0, .int 0, .int 0, .long 0, .ref mX, .int 0, .int 0, .int 0, .ref mA, .ref mB, .ref mW, .ref mL, .int 0]))] := hD
        refine lv_iload_n hx hb dX8_turn_58 rfl (lv_at hl 0 rfl) ?_
        refine kIret (u := 1) hx hb hr rfl hlocks hS dX8_turn_59 ?_ (hP.sub [0] rfl) (hD.sub [0] (by decide) rfl)
        first
          | exact (kif_t (by decide)).symm
          | exact (kif_t (by omega)).symm
          | exact (kif_f (by omega)).symm
    · have t_9_4 := c_9_4
      try simp only [kb_eq0, kb_ne0, lg_cmp_lt, lg_cmp_le, lg_cmp_gt, lg_cmp_ge, lg_cmp_eq] at t_9_4
      try simp only [Int32.lt_iff_toInt_lt, Int32.le_iff_toInt_le, ← Int32.toInt_inj, Int64.lt_iff_toInt_lt, Int64.le_iff_toInt_le, ← Int64.toInt_inj, Int32.toInt_toInt64, Int32.reduceToInt, Int64.reduceToInt] at t_9_4
      omega
  · refine lv_iload_n hx hb dX8_turn_0 rfl (lv_at hl 1 rfl) ?_
    refine lv_i2l hx hb dX8_turn_1 rfl ?_
    refine lv_topl (fun x_17 ex_17 => ?_)
    obtain rfl : x_17 = 2 := ex_17.trans (by decide)
    refine lv_lconst (v := 1) hx hb dX8_turn_2 (by decide) ?_
    refine lv_ldc2 (v := 4) hx hb hown (hts (.constantLong RX8 96 (4)) (List.mem_of_getElem? (i := 1) rfl)) dX8_turn_3 ?_
    refine kCallI (wr := [(m0, .inr (8, [.ref mH, .int 0, .long 0, .int 0, .long 0, .int 0, .int 0, .int 0, .int 0, .int 0, .int 0, .long 0, .int 0, .int 0, .ref mI, .ref mJ, .ref mS, .ref mD, .int 0, .int 0, .int 0, .long 0, .ref mX, .int 0, .int 0, .int 0, .ref mA, .ref mB, .ref mW, .ref mL, .int 0]))]) (va_runS (As := [.long 2, .long 1, .long 4]) (rest := []) ⟨hx, hb, hml, hown, hts⟩ (r_in l D cI cL cB cZ cT _ 2 1 4) (va_cwS 3 hts gX8_turn_X8_in rfl rfl rfl (by decide +kernel) ⟨Nat.le_of_ble_eq_true rfl, Nat.le_of_ble_eq_true rfl⟩) (kPreS hG hP hD [] rfl (by decide)) rfl rfl hl.1 rfl (lv_room (Nat.le_of_ble_eq_true rfl)) dX8_turn_6 ⟨Nat.le_of_ble_eq_true rfl, Nat.le_of_ble_eq_true rfl⟩) hA hP hD hS [] [0] rfl rfl (by decide) (by decide) (fun r_18 u_r_18 H locs wr_18 hP hD hS => ?_)
    have hP : va_P D vwCl [(m0, .inr (8, [.ref mH, .int 0, .long 0, .int 0, .long 0, .int 0, .int 0, .int 0, .int 0, .int 0, .int 0, .long 0, .int 0, .int 0, .ref mI, .ref mJ, .ref mS, .ref mD, .int 0, .int 0, .int 0, .long 0, .ref mX, .int 0, .int 0, .int 0, .ref mA, .ref mB, .ref mW, .ref mL, .int 0]))] H := hP
    have hD : va_D A [(m0, .inr (8, [.ref mH, .int 0, .long 0, .int 0, .long 0, .int 0, .int 0, .int 0, .int 0, .int 0, .int 0, .long 0, .int 0, .int 0, .ref mI, .ref mJ, .ref mS, .ref mD, .int 0, .int 0, .int 0, .long 0, .ref mX, .int 0, .int 0, .int 0, .ref mA, .ref mB, .ref mW, .ref mL, .int 0]))] := hD
    try dsimp only at wr_18
    subst wr_18
    refine lv_if_ne (tgt := 14) hx hb dX8_turn_9 (by decide) (fun c_9_18 => ?_) (fun c_9_18 => ?_)
    · have t_9_18 := c_9_18
      try simp only [kb_eq0, kb_ne0, lg_cmp_lt, lg_cmp_le, lg_cmp_gt, lg_cmp_ge, lg_cmp_eq] at t_9_18
      try simp only [Int32.lt_iff_toInt_lt, Int32.le_iff_toInt_le, ← Int32.toInt_inj, Int64.lt_iff_toInt_lt, Int64.le_iff_toInt_le, ← Int64.toInt_inj, Int32.toInt_toInt64, Int32.reduceToInt, Int64.reduceToInt] at t_9_18
      refine lv_aload_n hx hb dX8_turn_14 rfl (lv_at hl 0 rfl) ?_
      refine va_get (D := D) (ci := 8) (v := .int 0) (C := RX8) (T := TX8) (N := 31) hx hb hts iX8_turn_X8 hown hK hP 0 rfl rfl 8 (by decide) (hts (.fieldLink RX8 98 "TapeCalculatorModel" "switches" "I") (List.mem_of_getElem? (i := 2) rfl)) (fun _ h9 => h9) rfl dX8_turn_15 ?_
      refine lv_iload_n hx hb dX8_turn_18 rfl (lv_at hl 1 rfl) ?_
      refine lv_iconst (v := 1) hx hb dX8_turn_19 (by decide) ?_
      refine lv_isub hx hb dX8_turn_20 ?_
      refine lv_topi (fun x_20 ex_20 => ?_)
      obtain rfl : x_20 = 1 := ex_20.trans (by decide)
      refine lv_ishr hx hb dX8_turn_21 ?_
      refine lv_topi (fun x_21 ex_21 => ?_)
      obtain rfl : x_21 = 0 := ex_21.trans (by decide)
      refine lv_iconst (v := 1) hx hb dX8_turn_22 (by decide) ?_
      refine lv_iand hx hb dX8_turn_23 ?_
      refine lv_topi (fun x_22 ex_22 => ?_)
      obtain rfl : x_22 = 0 := ex_22.trans (by decide)
      refine lv_istore_n (lv' := [(3, .int 0), (0, .ref m0), (1, .int 2), (2, .int z)]) hx hb dX8_turn_24 rfl hl (by decide) rfl (fun ls hl => ?_)
      refine lv_aload_n hx hb dX8_turn_25 rfl (lv_at hl 1 rfl) ?_
      refine lv_iload_n hx hb dX8_turn_26 rfl (lv_at hl 3 rfl) ?_
      refine lv_if_eq (tgt := 43) hx hb dX8_turn_27 (by decide) (fun c_27_22 => ?_) (fun c_27_22 => ?_)
      · have t_27_22 := c_27_22
        try simp only [kb_eq0, kb_ne0, lg_cmp_lt, lg_cmp_le, lg_cmp_gt, lg_cmp_ge, lg_cmp_eq] at t_27_22
        try simp only [Int32.lt_iff_toInt_lt, Int32.le_iff_toInt_le, ← Int32.toInt_inj, Int64.lt_iff_toInt_lt, Int64.le_iff_toInt_le, ← Int64.toInt_inj, Int32.toInt_toInt64, Int32.reduceToInt, Int64.reduceToInt] at t_27_22
        refine lv_aload_n hx hb dX8_turn_43 rfl (lv_at hl 1 rfl) ?_
        refine va_get (D := D) (ci := 8) (v := .int 0) (C := RX8) (T := TX8) (N := 31) hx hb hts iX8_turn_X8 hown hK hP 0 rfl rfl 8 (by decide) (hts (.fieldLink RX8 98 "TapeCalculatorModel" "switches" "I") (List.mem_of_getElem? (i := 2) rfl)) (fun _ h9 => h9) rfl dX8_turn_44 ?_
        refine lv_iconst (v := 1) hx hb dX8_turn_47 (by decide) ?_
        refine lv_iload_n hx hb dX8_turn_48 rfl (lv_at hl 2 rfl) ?_
        refine lv_iconst (v := 1) hx hb dX8_turn_49 (by decide) ?_
        refine lv_isub hx hb dX8_turn_50 ?_
        refine lv_topi (fun x_24 ex_24 => ?_)
        obtain rfl : x_24 = 1 := ex_24.trans (by decide)
        refine lv_ishl hx hb dX8_turn_51 ?_
        refine lv_topi (fun x_25 ex_25 => ?_)
        obtain rfl : x_25 = 2 := ex_25.trans (by decide)
        refine lv_iconst (v := (-1)) hx hb dX8_turn_52 (by decide) ?_
        refine lv_ixor hx hb dX8_turn_53 ?_
        refine lv_topi (fun x_26 ex_26 => ?_)
        obtain rfl : x_26 = (-3) := ex_26.trans (by decide)
        refine lv_iand hx hb dX8_turn_54 ?_
        refine lv_topi (fun x_27 ex_27 => ?_)
        obtain rfl : x_27 = 0 := ex_27.trans (by decide)
        refine va_put (D := D) (ci := 8) (v := .int 0) (ty := .int) (C := RX8) (T := TX8) (N := 31) hx hb hts iX8_turn_X8 tyX8 tyX8_ok nmX8 hown hK hP hD hS 0 rfl rfl 8 (by decide) (hts (.fieldLink RX8 98 "TapeCalculatorModel" "switches" "I") (List.mem_of_getElem? (i := 2) rfl)) (fun _ h9 => h9) rfl (by decide +kernel) rfl rfl (Nat.le_of_ble_eq_true rfl) dX8_turn_55 (fun H locs hP hD hS => ?_)
        have hP : va_P D vwCl [(m0, .inr (8, [.ref mH, .int 0, .long 0, .int 0, .long 0, .int 0, .int 0, .int 0, .int 0, .int 0, .int 0, .long 0, .int 0, .int 0, .ref mI, .ref mJ, .ref mS, .ref mD, .int 0, .int 0, .int 0, .long 0, .ref mX, .int 0, .int 0, .int 0, .ref mA, .ref mB, .ref mW, .ref mL, .int 0]))] H := hP
        have hD : va_D A [(m0, .inr (8, [.ref mH, .int 0, .long 0, .int 0, .long 0, .int 0, .int 0, .int 0, .int 0, .int 0, .int 0, .long 0, .int 0, .int 0, .ref mI, .ref mJ, .ref mS, .ref mD, .int 0, .int 0, .int 0, .long 0, .ref mX, .int 0, .int 0, .int 0, .ref mA, .ref mB, .ref mW, .ref mL, .int 0]))] := hD
        refine lv_iload_n hx hb dX8_turn_58 rfl (lv_at hl 0 rfl) ?_
        refine kIret (u := 0) hx hb hr rfl hlocks hS dX8_turn_59 ?_ (hP.sub [0] rfl) (hD.sub [0] (by decide) rfl)
        first
          | exact (kif_t (by decide)).symm
          | exact (kif_t (by omega)).symm
          | exact (kif_f (by omega)).symm
      · have t_27_22 := c_27_22
        try simp only [kb_eq0, kb_ne0, lg_cmp_lt, lg_cmp_le, lg_cmp_gt, lg_cmp_ge, lg_cmp_eq] at t_27_22
        try simp only [Int32.lt_iff_toInt_lt, Int32.le_iff_toInt_le, ← Int32.toInt_inj, Int64.lt_iff_toInt_lt, Int64.le_iff_toInt_le, ← Int64.toInt_inj, Int32.toInt_toInt64, Int32.reduceToInt, Int64.reduceToInt] at t_27_22
        refine lv_aload_n hx hb dX8_turn_30 rfl (lv_at hl 1 rfl) ?_
        refine va_get (D := D) (ci := 8) (v := .int 0) (C := RX8) (T := TX8) (N := 31) hx hb hts iX8_turn_X8 hown hK hP 0 rfl rfl 8 (by decide) (hts (.fieldLink RX8 98 "TapeCalculatorModel" "switches" "I") (List.mem_of_getElem? (i := 2) rfl)) (fun _ h9 => h9) rfl dX8_turn_31 ?_
        refine lv_iconst (v := 1) hx hb dX8_turn_34 (by decide) ?_
        refine lv_iload_n hx hb dX8_turn_35 rfl (lv_at hl 2 rfl) ?_
        refine lv_iconst (v := 1) hx hb dX8_turn_36 (by decide) ?_
        refine lv_isub hx hb dX8_turn_37 ?_
        refine lv_topi (fun x_28 ex_28 => ?_)
        obtain rfl : x_28 = 1 := ex_28.trans (by decide)
        refine lv_ishl hx hb dX8_turn_38 ?_
        refine lv_topi (fun x_29 ex_29 => ?_)
        obtain rfl : x_29 = 2 := ex_29.trans (by decide)
        refine lv_ior hx hb dX8_turn_39 ?_
        refine lv_topi (fun x_30 ex_30 => ?_)
        obtain rfl : x_30 = 2 := ex_30.trans (by decide)
        refine lv_goto (tgt := 55) hx hb dX8_turn_40 (by decide) ?_
        refine va_put (D := D) (ci := 8) (v := .int 2) (ty := .int) (C := RX8) (T := TX8) (N := 31) hx hb hts iX8_turn_X8 tyX8 tyX8_ok nmX8 hown hK hP hD hS 0 rfl rfl 8 (by decide) (hts (.fieldLink RX8 98 "TapeCalculatorModel" "switches" "I") (List.mem_of_getElem? (i := 2) rfl)) (fun _ h9 => h9) rfl (by decide +kernel) rfl rfl (Nat.le_of_ble_eq_true rfl) dX8_turn_55 (fun H locs hP hD hS => ?_)
        have hP : va_P D vwCl [(m0, .inr (8, [.ref mH, .int 0, .long 0, .int 0, .long 0, .int 0, .int 0, .int 0, .int 2, .int 0, .int 0, .long 0, .int 0, .int 0, .ref mI, .ref mJ, .ref mS, .ref mD, .int 0, .int 0, .int 0, .long 0, .ref mX, .int 0, .int 0, .int 0, .ref mA, .ref mB, .ref mW, .ref mL, .int 0]))] H := hP
        have hD : va_D A [(m0, .inr (8, [.ref mH, .int 0, .long 0, .int 0, .long 0, .int 0, .int 0, .int 0, .int 2, .int 0, .int 0, .long 0, .int 0, .int 0, .ref mI, .ref mJ, .ref mS, .ref mD, .int 0, .int 0, .int 0, .long 0, .ref mX, .int 0, .int 0, .int 0, .ref mA, .ref mB, .ref mW, .ref mL, .int 0]))] := hD
        refine lv_iload_n hx hb dX8_turn_58 rfl (lv_at hl 0 rfl) ?_
        refine kIret (u := 2) hx hb hr rfl hlocks hS dX8_turn_59 ?_ (hP.sub [0] rfl) (hD.sub [0] (by decide) rfl)
        first
          | exact (kif_t (by decide)).symm
          | exact (kif_t (by omega)).symm
          | exact (kif_f (by omega)).symm
    · have t_9_18 := c_9_18
      try simp only [kb_eq0, kb_ne0, lg_cmp_lt, lg_cmp_le, lg_cmp_gt, lg_cmp_ge, lg_cmp_eq] at t_9_18
      try simp only [Int32.lt_iff_toInt_lt, Int32.le_iff_toInt_le, ← Int32.toInt_inj, Int64.lt_iff_toInt_lt, Int64.le_iff_toInt_le, ← Int64.toInt_inj, Int32.toInt_toInt64, Int32.reduceToInt, Int64.reduceToInt] at t_9_18
      omega
  · refine lv_iload_n hx hb dX8_turn_0 rfl (lv_at hl 1 rfl) ?_
    refine lv_i2l hx hb dX8_turn_1 rfl ?_
    refine lv_topl (fun x_31 ex_31 => ?_)
    obtain rfl : x_31 = 3 := ex_31.trans (by decide)
    refine lv_lconst (v := 1) hx hb dX8_turn_2 (by decide) ?_
    refine lv_ldc2 (v := 4) hx hb hown (hts (.constantLong RX8 96 (4)) (List.mem_of_getElem? (i := 1) rfl)) dX8_turn_3 ?_
    refine kCallI (wr := [(m0, .inr (8, [.ref mH, .int 0, .long 0, .int 0, .long 0, .int 0, .int 0, .int 0, .int 0, .int 0, .int 0, .long 0, .int 0, .int 0, .ref mI, .ref mJ, .ref mS, .ref mD, .int 0, .int 0, .int 0, .long 0, .ref mX, .int 0, .int 0, .int 0, .ref mA, .ref mB, .ref mW, .ref mL, .int 0]))]) (va_runS (As := [.long 3, .long 1, .long 4]) (rest := []) ⟨hx, hb, hml, hown, hts⟩ (r_in l D cI cL cB cZ cT _ 3 1 4) (va_cwS 3 hts gX8_turn_X8_in rfl rfl rfl (by decide +kernel) ⟨Nat.le_of_ble_eq_true rfl, Nat.le_of_ble_eq_true rfl⟩) (kPreS hG hP hD [] rfl (by decide)) rfl rfl hl.1 rfl (lv_room (Nat.le_of_ble_eq_true rfl)) dX8_turn_6 ⟨Nat.le_of_ble_eq_true rfl, Nat.le_of_ble_eq_true rfl⟩) hA hP hD hS [] [0] rfl rfl (by decide) (by decide) (fun r_32 u_r_32 H locs wr_32 hP hD hS => ?_)
    have hP : va_P D vwCl [(m0, .inr (8, [.ref mH, .int 0, .long 0, .int 0, .long 0, .int 0, .int 0, .int 0, .int 0, .int 0, .int 0, .long 0, .int 0, .int 0, .ref mI, .ref mJ, .ref mS, .ref mD, .int 0, .int 0, .int 0, .long 0, .ref mX, .int 0, .int 0, .int 0, .ref mA, .ref mB, .ref mW, .ref mL, .int 0]))] H := hP
    have hD : va_D A [(m0, .inr (8, [.ref mH, .int 0, .long 0, .int 0, .long 0, .int 0, .int 0, .int 0, .int 0, .int 0, .int 0, .long 0, .int 0, .int 0, .ref mI, .ref mJ, .ref mS, .ref mD, .int 0, .int 0, .int 0, .long 0, .ref mX, .int 0, .int 0, .int 0, .ref mA, .ref mB, .ref mW, .ref mL, .int 0]))] := hD
    try dsimp only at wr_32
    subst wr_32
    refine lv_if_ne (tgt := 14) hx hb dX8_turn_9 (by decide) (fun c_9_32 => ?_) (fun c_9_32 => ?_)
    · have t_9_32 := c_9_32
      try simp only [kb_eq0, kb_ne0, lg_cmp_lt, lg_cmp_le, lg_cmp_gt, lg_cmp_ge, lg_cmp_eq] at t_9_32
      try simp only [Int32.lt_iff_toInt_lt, Int32.le_iff_toInt_le, ← Int32.toInt_inj, Int64.lt_iff_toInt_lt, Int64.le_iff_toInt_le, ← Int64.toInt_inj, Int32.toInt_toInt64, Int32.reduceToInt, Int64.reduceToInt] at t_9_32
      refine lv_aload_n hx hb dX8_turn_14 rfl (lv_at hl 0 rfl) ?_
      refine va_get (D := D) (ci := 8) (v := .int 0) (C := RX8) (T := TX8) (N := 31) hx hb hts iX8_turn_X8 hown hK hP 0 rfl rfl 8 (by decide) (hts (.fieldLink RX8 98 "TapeCalculatorModel" "switches" "I") (List.mem_of_getElem? (i := 2) rfl)) (fun _ h9 => h9) rfl dX8_turn_15 ?_
      refine lv_iload_n hx hb dX8_turn_18 rfl (lv_at hl 1 rfl) ?_
      refine lv_iconst (v := 1) hx hb dX8_turn_19 (by decide) ?_
      refine lv_isub hx hb dX8_turn_20 ?_
      refine lv_topi (fun x_34 ex_34 => ?_)
      obtain rfl : x_34 = 2 := ex_34.trans (by decide)
      refine lv_ishr hx hb dX8_turn_21 ?_
      refine lv_topi (fun x_35 ex_35 => ?_)
      obtain rfl : x_35 = 0 := ex_35.trans (by decide)
      refine lv_iconst (v := 1) hx hb dX8_turn_22 (by decide) ?_
      refine lv_iand hx hb dX8_turn_23 ?_
      refine lv_topi (fun x_36 ex_36 => ?_)
      obtain rfl : x_36 = 0 := ex_36.trans (by decide)
      refine lv_istore_n (lv' := [(3, .int 0), (0, .ref m0), (1, .int 3), (2, .int z)]) hx hb dX8_turn_24 rfl hl (by decide) rfl (fun ls hl => ?_)
      refine lv_aload_n hx hb dX8_turn_25 rfl (lv_at hl 1 rfl) ?_
      refine lv_iload_n hx hb dX8_turn_26 rfl (lv_at hl 3 rfl) ?_
      refine lv_if_eq (tgt := 43) hx hb dX8_turn_27 (by decide) (fun c_27_36 => ?_) (fun c_27_36 => ?_)
      · have t_27_36 := c_27_36
        try simp only [kb_eq0, kb_ne0, lg_cmp_lt, lg_cmp_le, lg_cmp_gt, lg_cmp_ge, lg_cmp_eq] at t_27_36
        try simp only [Int32.lt_iff_toInt_lt, Int32.le_iff_toInt_le, ← Int32.toInt_inj, Int64.lt_iff_toInt_lt, Int64.le_iff_toInt_le, ← Int64.toInt_inj, Int32.toInt_toInt64, Int32.reduceToInt, Int64.reduceToInt] at t_27_36
        refine lv_aload_n hx hb dX8_turn_43 rfl (lv_at hl 1 rfl) ?_
        refine va_get (D := D) (ci := 8) (v := .int 0) (C := RX8) (T := TX8) (N := 31) hx hb hts iX8_turn_X8 hown hK hP 0 rfl rfl 8 (by decide) (hts (.fieldLink RX8 98 "TapeCalculatorModel" "switches" "I") (List.mem_of_getElem? (i := 2) rfl)) (fun _ h9 => h9) rfl dX8_turn_44 ?_
        refine lv_iconst (v := 1) hx hb dX8_turn_47 (by decide) ?_
        refine lv_iload_n hx hb dX8_turn_48 rfl (lv_at hl 2 rfl) ?_
        refine lv_iconst (v := 1) hx hb dX8_turn_49 (by decide) ?_
        refine lv_isub hx hb dX8_turn_50 ?_
        refine lv_topi (fun x_38 ex_38 => ?_)
        obtain rfl : x_38 = 2 := ex_38.trans (by decide)
        refine lv_ishl hx hb dX8_turn_51 ?_
        refine lv_topi (fun x_39 ex_39 => ?_)
        obtain rfl : x_39 = 4 := ex_39.trans (by decide)
        refine lv_iconst (v := (-1)) hx hb dX8_turn_52 (by decide) ?_
        refine lv_ixor hx hb dX8_turn_53 ?_
        refine lv_topi (fun x_40 ex_40 => ?_)
        obtain rfl : x_40 = (-5) := ex_40.trans (by decide)
        refine lv_iand hx hb dX8_turn_54 ?_
        refine lv_topi (fun x_41 ex_41 => ?_)
        obtain rfl : x_41 = 0 := ex_41.trans (by decide)
        refine va_put (D := D) (ci := 8) (v := .int 0) (ty := .int) (C := RX8) (T := TX8) (N := 31) hx hb hts iX8_turn_X8 tyX8 tyX8_ok nmX8 hown hK hP hD hS 0 rfl rfl 8 (by decide) (hts (.fieldLink RX8 98 "TapeCalculatorModel" "switches" "I") (List.mem_of_getElem? (i := 2) rfl)) (fun _ h9 => h9) rfl (by decide +kernel) rfl rfl (Nat.le_of_ble_eq_true rfl) dX8_turn_55 (fun H locs hP hD hS => ?_)
        have hP : va_P D vwCl [(m0, .inr (8, [.ref mH, .int 0, .long 0, .int 0, .long 0, .int 0, .int 0, .int 0, .int 0, .int 0, .int 0, .long 0, .int 0, .int 0, .ref mI, .ref mJ, .ref mS, .ref mD, .int 0, .int 0, .int 0, .long 0, .ref mX, .int 0, .int 0, .int 0, .ref mA, .ref mB, .ref mW, .ref mL, .int 0]))] H := hP
        have hD : va_D A [(m0, .inr (8, [.ref mH, .int 0, .long 0, .int 0, .long 0, .int 0, .int 0, .int 0, .int 0, .int 0, .int 0, .long 0, .int 0, .int 0, .ref mI, .ref mJ, .ref mS, .ref mD, .int 0, .int 0, .int 0, .long 0, .ref mX, .int 0, .int 0, .int 0, .ref mA, .ref mB, .ref mW, .ref mL, .int 0]))] := hD
        refine lv_iload_n hx hb dX8_turn_58 rfl (lv_at hl 0 rfl) ?_
        refine kIret (u := 0) hx hb hr rfl hlocks hS dX8_turn_59 ?_ (hP.sub [0] rfl) (hD.sub [0] (by decide) rfl)
        first
          | exact (kif_t (by decide)).symm
          | exact (kif_t (by omega)).symm
          | exact (kif_f (by omega)).symm
      · have t_27_36 := c_27_36
        try simp only [kb_eq0, kb_ne0, lg_cmp_lt, lg_cmp_le, lg_cmp_gt, lg_cmp_ge, lg_cmp_eq] at t_27_36
        try simp only [Int32.lt_iff_toInt_lt, Int32.le_iff_toInt_le, ← Int32.toInt_inj, Int64.lt_iff_toInt_lt, Int64.le_iff_toInt_le, ← Int64.toInt_inj, Int32.toInt_toInt64, Int32.reduceToInt, Int64.reduceToInt] at t_27_36
        refine lv_aload_n hx hb dX8_turn_30 rfl (lv_at hl 1 rfl) ?_
        refine va_get (D := D) (ci := 8) (v := .int 0) (C := RX8) (T := TX8) (N := 31) hx hb hts iX8_turn_X8 hown hK hP 0 rfl rfl 8 (by decide) (hts (.fieldLink RX8 98 "TapeCalculatorModel" "switches" "I") (List.mem_of_getElem? (i := 2) rfl)) (fun _ h9 => h9) rfl dX8_turn_31 ?_
        refine lv_iconst (v := 1) hx hb dX8_turn_34 (by decide) ?_
        refine lv_iload_n hx hb dX8_turn_35 rfl (lv_at hl 2 rfl) ?_
        refine lv_iconst (v := 1) hx hb dX8_turn_36 (by decide) ?_
        refine lv_isub hx hb dX8_turn_37 ?_
        refine lv_topi (fun x_42 ex_42 => ?_)
        obtain rfl : x_42 = 2 := ex_42.trans (by decide)
        refine lv_ishl hx hb dX8_turn_38 ?_
        refine lv_topi (fun x_43 ex_43 => ?_)
        obtain rfl : x_43 = 4 := ex_43.trans (by decide)
        refine lv_ior hx hb dX8_turn_39 ?_
        refine lv_topi (fun x_44 ex_44 => ?_)
        obtain rfl : x_44 = 4 := ex_44.trans (by decide)
        refine lv_goto (tgt := 55) hx hb dX8_turn_40 (by decide) ?_
        refine va_put (D := D) (ci := 8) (v := .int 4) (ty := .int) (C := RX8) (T := TX8) (N := 31) hx hb hts iX8_turn_X8 tyX8 tyX8_ok nmX8 hown hK hP hD hS 0 rfl rfl 8 (by decide) (hts (.fieldLink RX8 98 "TapeCalculatorModel" "switches" "I") (List.mem_of_getElem? (i := 2) rfl)) (fun _ h9 => h9) rfl (by decide +kernel) rfl rfl (Nat.le_of_ble_eq_true rfl) dX8_turn_55 (fun H locs hP hD hS => ?_)
        have hP : va_P D vwCl [(m0, .inr (8, [.ref mH, .int 0, .long 0, .int 0, .long 0, .int 0, .int 0, .int 0, .int 4, .int 0, .int 0, .long 0, .int 0, .int 0, .ref mI, .ref mJ, .ref mS, .ref mD, .int 0, .int 0, .int 0, .long 0, .ref mX, .int 0, .int 0, .int 0, .ref mA, .ref mB, .ref mW, .ref mL, .int 0]))] H := hP
        have hD : va_D A [(m0, .inr (8, [.ref mH, .int 0, .long 0, .int 0, .long 0, .int 0, .int 0, .int 0, .int 4, .int 0, .int 0, .long 0, .int 0, .int 0, .ref mI, .ref mJ, .ref mS, .ref mD, .int 0, .int 0, .int 0, .long 0, .ref mX, .int 0, .int 0, .int 0, .ref mA, .ref mB, .ref mW, .ref mL, .int 0]))] := hD
        refine lv_iload_n hx hb dX8_turn_58 rfl (lv_at hl 0 rfl) ?_
        refine kIret (u := 4) hx hb hr rfl hlocks hS dX8_turn_59 ?_ (hP.sub [0] rfl) (hD.sub [0] (by decide) rfl)
        first
          | exact (kif_t (by decide)).symm
          | exact (kif_t (by omega)).symm
          | exact (kif_f (by omega)).symm
    · have t_9_32 := c_9_32
      try simp only [kb_eq0, kb_ne0, lg_cmp_lt, lg_cmp_le, lg_cmp_gt, lg_cmp_ge, lg_cmp_eq] at t_9_32
      try simp only [Int32.lt_iff_toInt_lt, Int32.le_iff_toInt_le, ← Int32.toInt_inj, Int64.lt_iff_toInt_lt, Int64.le_iff_toInt_le, ← Int64.toInt_inj, Int32.toInt_toInt64, Int32.reduceToInt, Int64.reduceToInt] at t_9_32
      omega
  · refine lv_iload_n hx hb dX8_turn_0 rfl (lv_at hl 1 rfl) ?_
    refine lv_i2l hx hb dX8_turn_1 rfl ?_
    refine lv_topl (fun x_45 ex_45 => ?_)
    obtain rfl : x_45 = 4 := ex_45.trans (by decide)
    refine lv_lconst (v := 1) hx hb dX8_turn_2 (by decide) ?_
    refine lv_ldc2 (v := 4) hx hb hown (hts (.constantLong RX8 96 (4)) (List.mem_of_getElem? (i := 1) rfl)) dX8_turn_3 ?_
    refine kCallI (wr := [(m0, .inr (8, [.ref mH, .int 0, .long 0, .int 0, .long 0, .int 0, .int 0, .int 0, .int 0, .int 0, .int 0, .long 0, .int 0, .int 0, .ref mI, .ref mJ, .ref mS, .ref mD, .int 0, .int 0, .int 0, .long 0, .ref mX, .int 0, .int 0, .int 0, .ref mA, .ref mB, .ref mW, .ref mL, .int 0]))]) (va_runS (As := [.long 4, .long 1, .long 4]) (rest := []) ⟨hx, hb, hml, hown, hts⟩ (r_in l D cI cL cB cZ cT _ 4 1 4) (va_cwS 3 hts gX8_turn_X8_in rfl rfl rfl (by decide +kernel) ⟨Nat.le_of_ble_eq_true rfl, Nat.le_of_ble_eq_true rfl⟩) (kPreS hG hP hD [] rfl (by decide)) rfl rfl hl.1 rfl (lv_room (Nat.le_of_ble_eq_true rfl)) dX8_turn_6 ⟨Nat.le_of_ble_eq_true rfl, Nat.le_of_ble_eq_true rfl⟩) hA hP hD hS [] [0] rfl rfl (by decide) (by decide) (fun r_46 u_r_46 H locs wr_46 hP hD hS => ?_)
    have hP : va_P D vwCl [(m0, .inr (8, [.ref mH, .int 0, .long 0, .int 0, .long 0, .int 0, .int 0, .int 0, .int 0, .int 0, .int 0, .long 0, .int 0, .int 0, .ref mI, .ref mJ, .ref mS, .ref mD, .int 0, .int 0, .int 0, .long 0, .ref mX, .int 0, .int 0, .int 0, .ref mA, .ref mB, .ref mW, .ref mL, .int 0]))] H := hP
    have hD : va_D A [(m0, .inr (8, [.ref mH, .int 0, .long 0, .int 0, .long 0, .int 0, .int 0, .int 0, .int 0, .int 0, .int 0, .long 0, .int 0, .int 0, .ref mI, .ref mJ, .ref mS, .ref mD, .int 0, .int 0, .int 0, .long 0, .ref mX, .int 0, .int 0, .int 0, .ref mA, .ref mB, .ref mW, .ref mL, .int 0]))] := hD
    try dsimp only at wr_46
    subst wr_46
    refine lv_if_ne (tgt := 14) hx hb dX8_turn_9 (by decide) (fun c_9_46 => ?_) (fun c_9_46 => ?_)
    · have t_9_46 := c_9_46
      try simp only [kb_eq0, kb_ne0, lg_cmp_lt, lg_cmp_le, lg_cmp_gt, lg_cmp_ge, lg_cmp_eq] at t_9_46
      try simp only [Int32.lt_iff_toInt_lt, Int32.le_iff_toInt_le, ← Int32.toInt_inj, Int64.lt_iff_toInt_lt, Int64.le_iff_toInt_le, ← Int64.toInt_inj, Int32.toInt_toInt64, Int32.reduceToInt, Int64.reduceToInt] at t_9_46
      refine lv_aload_n hx hb dX8_turn_14 rfl (lv_at hl 0 rfl) ?_
      refine va_get (D := D) (ci := 8) (v := .int 0) (C := RX8) (T := TX8) (N := 31) hx hb hts iX8_turn_X8 hown hK hP 0 rfl rfl 8 (by decide) (hts (.fieldLink RX8 98 "TapeCalculatorModel" "switches" "I") (List.mem_of_getElem? (i := 2) rfl)) (fun _ h9 => h9) rfl dX8_turn_15 ?_
      refine lv_iload_n hx hb dX8_turn_18 rfl (lv_at hl 1 rfl) ?_
      refine lv_iconst (v := 1) hx hb dX8_turn_19 (by decide) ?_
      refine lv_isub hx hb dX8_turn_20 ?_
      refine lv_topi (fun x_48 ex_48 => ?_)
      obtain rfl : x_48 = 3 := ex_48.trans (by decide)
      refine lv_ishr hx hb dX8_turn_21 ?_
      refine lv_topi (fun x_49 ex_49 => ?_)
      obtain rfl : x_49 = 0 := ex_49.trans (by decide)
      refine lv_iconst (v := 1) hx hb dX8_turn_22 (by decide) ?_
      refine lv_iand hx hb dX8_turn_23 ?_
      refine lv_topi (fun x_50 ex_50 => ?_)
      obtain rfl : x_50 = 0 := ex_50.trans (by decide)
      refine lv_istore_n (lv' := [(3, .int 0), (0, .ref m0), (1, .int 4), (2, .int z)]) hx hb dX8_turn_24 rfl hl (by decide) rfl (fun ls hl => ?_)
      refine lv_aload_n hx hb dX8_turn_25 rfl (lv_at hl 1 rfl) ?_
      refine lv_iload_n hx hb dX8_turn_26 rfl (lv_at hl 3 rfl) ?_
      refine lv_if_eq (tgt := 43) hx hb dX8_turn_27 (by decide) (fun c_27_50 => ?_) (fun c_27_50 => ?_)
      · have t_27_50 := c_27_50
        try simp only [kb_eq0, kb_ne0, lg_cmp_lt, lg_cmp_le, lg_cmp_gt, lg_cmp_ge, lg_cmp_eq] at t_27_50
        try simp only [Int32.lt_iff_toInt_lt, Int32.le_iff_toInt_le, ← Int32.toInt_inj, Int64.lt_iff_toInt_lt, Int64.le_iff_toInt_le, ← Int64.toInt_inj, Int32.toInt_toInt64, Int32.reduceToInt, Int64.reduceToInt] at t_27_50
        refine lv_aload_n hx hb dX8_turn_43 rfl (lv_at hl 1 rfl) ?_
        refine va_get (D := D) (ci := 8) (v := .int 0) (C := RX8) (T := TX8) (N := 31) hx hb hts iX8_turn_X8 hown hK hP 0 rfl rfl 8 (by decide) (hts (.fieldLink RX8 98 "TapeCalculatorModel" "switches" "I") (List.mem_of_getElem? (i := 2) rfl)) (fun _ h9 => h9) rfl dX8_turn_44 ?_
        refine lv_iconst (v := 1) hx hb dX8_turn_47 (by decide) ?_
        refine lv_iload_n hx hb dX8_turn_48 rfl (lv_at hl 2 rfl) ?_
        refine lv_iconst (v := 1) hx hb dX8_turn_49 (by decide) ?_
        refine lv_isub hx hb dX8_turn_50 ?_
        refine lv_topi (fun x_52 ex_52 => ?_)
        obtain rfl : x_52 = 3 := ex_52.trans (by decide)
        refine lv_ishl hx hb dX8_turn_51 ?_
        refine lv_topi (fun x_53 ex_53 => ?_)
        obtain rfl : x_53 = 8 := ex_53.trans (by decide)
        refine lv_iconst (v := (-1)) hx hb dX8_turn_52 (by decide) ?_
        refine lv_ixor hx hb dX8_turn_53 ?_
        refine lv_topi (fun x_54 ex_54 => ?_)
        obtain rfl : x_54 = (-9) := ex_54.trans (by decide)
        refine lv_iand hx hb dX8_turn_54 ?_
        refine lv_topi (fun x_55 ex_55 => ?_)
        obtain rfl : x_55 = 0 := ex_55.trans (by decide)
        refine va_put (D := D) (ci := 8) (v := .int 0) (ty := .int) (C := RX8) (T := TX8) (N := 31) hx hb hts iX8_turn_X8 tyX8 tyX8_ok nmX8 hown hK hP hD hS 0 rfl rfl 8 (by decide) (hts (.fieldLink RX8 98 "TapeCalculatorModel" "switches" "I") (List.mem_of_getElem? (i := 2) rfl)) (fun _ h9 => h9) rfl (by decide +kernel) rfl rfl (Nat.le_of_ble_eq_true rfl) dX8_turn_55 (fun H locs hP hD hS => ?_)
        have hP : va_P D vwCl [(m0, .inr (8, [.ref mH, .int 0, .long 0, .int 0, .long 0, .int 0, .int 0, .int 0, .int 0, .int 0, .int 0, .long 0, .int 0, .int 0, .ref mI, .ref mJ, .ref mS, .ref mD, .int 0, .int 0, .int 0, .long 0, .ref mX, .int 0, .int 0, .int 0, .ref mA, .ref mB, .ref mW, .ref mL, .int 0]))] H := hP
        have hD : va_D A [(m0, .inr (8, [.ref mH, .int 0, .long 0, .int 0, .long 0, .int 0, .int 0, .int 0, .int 0, .int 0, .int 0, .long 0, .int 0, .int 0, .ref mI, .ref mJ, .ref mS, .ref mD, .int 0, .int 0, .int 0, .long 0, .ref mX, .int 0, .int 0, .int 0, .ref mA, .ref mB, .ref mW, .ref mL, .int 0]))] := hD
        refine lv_iload_n hx hb dX8_turn_58 rfl (lv_at hl 0 rfl) ?_
        refine kIret (u := 0) hx hb hr rfl hlocks hS dX8_turn_59 ?_ (hP.sub [0] rfl) (hD.sub [0] (by decide) rfl)
        first
          | exact (kif_t (by decide)).symm
          | exact (kif_t (by omega)).symm
          | exact (kif_f (by omega)).symm
      · have t_27_50 := c_27_50
        try simp only [kb_eq0, kb_ne0, lg_cmp_lt, lg_cmp_le, lg_cmp_gt, lg_cmp_ge, lg_cmp_eq] at t_27_50
        try simp only [Int32.lt_iff_toInt_lt, Int32.le_iff_toInt_le, ← Int32.toInt_inj, Int64.lt_iff_toInt_lt, Int64.le_iff_toInt_le, ← Int64.toInt_inj, Int32.toInt_toInt64, Int32.reduceToInt, Int64.reduceToInt] at t_27_50
        refine lv_aload_n hx hb dX8_turn_30 rfl (lv_at hl 1 rfl) ?_
        refine va_get (D := D) (ci := 8) (v := .int 0) (C := RX8) (T := TX8) (N := 31) hx hb hts iX8_turn_X8 hown hK hP 0 rfl rfl 8 (by decide) (hts (.fieldLink RX8 98 "TapeCalculatorModel" "switches" "I") (List.mem_of_getElem? (i := 2) rfl)) (fun _ h9 => h9) rfl dX8_turn_31 ?_
        refine lv_iconst (v := 1) hx hb dX8_turn_34 (by decide) ?_
        refine lv_iload_n hx hb dX8_turn_35 rfl (lv_at hl 2 rfl) ?_
        refine lv_iconst (v := 1) hx hb dX8_turn_36 (by decide) ?_
        refine lv_isub hx hb dX8_turn_37 ?_
        refine lv_topi (fun x_56 ex_56 => ?_)
        obtain rfl : x_56 = 3 := ex_56.trans (by decide)
        refine lv_ishl hx hb dX8_turn_38 ?_
        refine lv_topi (fun x_57 ex_57 => ?_)
        obtain rfl : x_57 = 8 := ex_57.trans (by decide)
        refine lv_ior hx hb dX8_turn_39 ?_
        refine lv_topi (fun x_58 ex_58 => ?_)
        obtain rfl : x_58 = 8 := ex_58.trans (by decide)
        refine lv_goto (tgt := 55) hx hb dX8_turn_40 (by decide) ?_
        refine va_put (D := D) (ci := 8) (v := .int 8) (ty := .int) (C := RX8) (T := TX8) (N := 31) hx hb hts iX8_turn_X8 tyX8 tyX8_ok nmX8 hown hK hP hD hS 0 rfl rfl 8 (by decide) (hts (.fieldLink RX8 98 "TapeCalculatorModel" "switches" "I") (List.mem_of_getElem? (i := 2) rfl)) (fun _ h9 => h9) rfl (by decide +kernel) rfl rfl (Nat.le_of_ble_eq_true rfl) dX8_turn_55 (fun H locs hP hD hS => ?_)
        have hP : va_P D vwCl [(m0, .inr (8, [.ref mH, .int 0, .long 0, .int 0, .long 0, .int 0, .int 0, .int 0, .int 8, .int 0, .int 0, .long 0, .int 0, .int 0, .ref mI, .ref mJ, .ref mS, .ref mD, .int 0, .int 0, .int 0, .long 0, .ref mX, .int 0, .int 0, .int 0, .ref mA, .ref mB, .ref mW, .ref mL, .int 0]))] H := hP
        have hD : va_D A [(m0, .inr (8, [.ref mH, .int 0, .long 0, .int 0, .long 0, .int 0, .int 0, .int 0, .int 8, .int 0, .int 0, .long 0, .int 0, .int 0, .ref mI, .ref mJ, .ref mS, .ref mD, .int 0, .int 0, .int 0, .long 0, .ref mX, .int 0, .int 0, .int 0, .ref mA, .ref mB, .ref mW, .ref mL, .int 0]))] := hD
        refine lv_iload_n hx hb dX8_turn_58 rfl (lv_at hl 0 rfl) ?_
        refine kIret (u := 8) hx hb hr rfl hlocks hS dX8_turn_59 ?_ (hP.sub [0] rfl) (hD.sub [0] (by decide) rfl)
        first
          | exact (kif_t (by decide)).symm
          | exact (kif_t (by omega)).symm
          | exact (kif_f (by omega)).symm
    · have t_9_46 := c_9_46
      try simp only [kb_eq0, kb_ne0, lg_cmp_lt, lg_cmp_le, lg_cmp_gt, lg_cmp_ge, lg_cmp_eq] at t_9_46
      try simp only [Int32.lt_iff_toInt_lt, Int32.le_iff_toInt_le, ← Int32.toInt_inj, Int64.lt_iff_toInt_lt, Int64.le_iff_toInt_le, ← Int64.toInt_inj, Int32.toInt_toInt64, Int32.reduceToInt, Int64.reduceToInt] at t_9_46
      omega
set_option maxRecDepth 100000 in
theorem iX8_acts_X8 : ∀ w ∈ wsX80, w ∈ wsX8_acts := fun w h => (goodIn_r (big := wsX8_acts) wsX80 [2, 3, 4, 5, 6, 7, 8, 9, 10, 11, 12, 13, 14, 15, 16, 17, 18, 19, 20, 21, 22, 23, 24, 25, 26, 27, 28, 29, 30, 31, 32] rfl (by decide +kernel) w h).1
set_option maxRecDepth 100000 in
set_option maxHeartbeats 4000000 in
theorem r_acts (l : Launch) (D : va_G) (cI cL cB cZ cT : ClassId) (sz : Nat) (m0 mH mI mJ mS mD mX mA mB mW mL : Nat) : kM (S := Unit) l yX8_acts wsX8_acts ({ frames := 0, cells := 0, slots := 0, locals := 0 }) D (kT cI cL cB cZ cT) [.ref m0] [(m0, .inr (8, [.ref mH, .int 0, .long 0, .int 0, .long 0, .int 0, .int 0, .int 0, .int 0, .int 0, .int 0, .long 0, .int 0, .int 0, .ref mI, .ref mJ, .ref mS, .ref mD, .int 0, .int 0, .int 0, .long 0, .ref mX, .int 0, .int 0, .int 0, .ref mA, .ref mB, .ref mW, .ref mL, .int 0]))] sz eL (fun r _ => r = 0) (fun _ => [(m0, .inr (8, [.ref mH, .int 0, .long 0, .int 0, .long 0, .int 0, .int 0, .int 0, .int 0, .int 0, .int 0, .long 0, .int 0, .int 0, .ref mI, .ref mJ, .ref mS, .ref mD, .int 0, .int 0, .int 0, .long 0, .ref mX, .int 0, .int 0, .int 0, .ref mA, .ref mB, .ref mW, .ref mL, .int 0]))]) 0 0 := by
  refine kStart (cc := cX8_acts) (maxL := 1) (ret := (some .long)) (own := RX8) (by decide) rfl rfl (Nat.le_of_ble_eq_true rfl) ?_
  intro p e s m args below meth c A ls hx hb hr hml hown hts hlocks hnm hsz hA hG hP hD hS hl
  have hK := hG.1
  have hl : lv_has ls 1 [(0, .ref m0)] := hl
  refine lv_aload_n hx hb dX8_acts_0 rfl (lv_at hl 0 rfl) ?_
  refine va_get (D := D) (ci := 8) (v := .long 0) (C := RX8) (T := TX8) (N := 31) hx hb hts iX8_acts_X8 hown hK hP 0 rfl rfl 11 (by decide) (hts (.fieldLink RX8 158 "TapeCalculatorModel" "acts" "J") (List.mem_of_getElem? (i := 1) rfl)) (fun _ h9 => h9) rfl dX8_acts_1 ?_
  refine kLret (u := ()) hx hb hr hlocks hS dX8_acts_4 ?_ (hP.sub [0] rfl) (hD.sub [0] (by decide) rfl)
  exact rfl
set_option maxRecDepth 100000 in
theorem iX8_endsRecord_X8 : ∀ w ∈ wsX80, w ∈ wsX8_endsRecord := fun w h => (goodIn_r (big := wsX8_endsRecord) wsX80 [12, 13, 14, 15, 16, 17, 18, 19, 20, 21, 22, 23, 24, 25, 26, 27, 28, 29, 30, 31, 32, 33, 34, 35, 36, 37, 38, 39, 40, 41, 42] rfl (by decide +kernel) w h).1
set_option maxRecDepth 100000 in
set_option maxHeartbeats 4000000 in
theorem r_endsRecord (l : Launch) (D : va_G) (cI cL cB cZ cT : ClassId) (sz : Nat) (m0 mH mI mJ mS mD mX mA mB mW mL : Nat) (ac : Int64) : kM (S := Unit) l yX8_endsRecord wsX8_endsRecord ({ frames := 0, cells := 0, slots := 0, locals := 0 }) D (kT cI cL cB cZ cT) [.ref m0] [(m0, .inr (8, [.ref mH, .int 0, .long 0, .int 0, .long 0, .int 0, .int 0, .int 0, .int 0, .int 0, .int 0, .long ac, .int 0, .int 0, .ref mI, .ref mJ, .ref mS, .ref mD, .int 0, .int 0, .int 0, .long 0, .ref mX, .int 0, .int 0, .int 0, .ref mA, .ref mB, .ref mW, .ref mL, .int 0]))] sz eI (fun r _ => r = 1) (fun _ => [(m0, .inr (8, [.ref mH, .int 0, .long 0, .int 0, .long 0, .int 0, .int 0, .int 0, .int 0, .int 0, .int 0, .long ac, .int 0, .int 0, .ref mI, .ref mJ, .ref mS, .ref mD, .int 0, .int 0, .int 0, .long 0, .ref mX, .int 0, .int 0, .int 0, .ref mA, .ref mB, .ref mW, .ref mL, .int 0]))]) 0 0 := by
  refine kStart (cc := cX8_endsRecord) (maxL := 1) (ret := (some .boolean)) (own := RX8) (by decide) rfl rfl (Nat.le_of_ble_eq_true rfl) ?_
  intro p e s m args below meth c A ls hx hb hr hml hown hts hlocks hnm hsz hA hG hP hD hS hl
  have hK := hG.1
  have hl : lv_has ls 1 [(0, .ref m0)] := hl
  refine lv_aload_n hx hb dX8_endsRecord_0 rfl (lv_at hl 0 rfl) ?_
  refine va_get (D := D) (ci := 8) (v := .int 0) (C := RX8) (T := TX8) (N := 31) hx hb hts iX8_endsRecord_X8 hown hK hP 0 rfl rfl 13 (by decide) (hts (.fieldLink RX8 115 "TapeCalculatorModel" "isWritten" "Z") (List.mem_of_getElem? (i := 1) rfl)) (fun _ h9 => h9) rfl dX8_endsRecord_1 ?_
  refine lv_if_ne (tgt := 9) hx hb dX8_endsRecord_4 (by decide) (fun c_4_0 => ?_) (fun c_4_0 => ?_)
  · exact absurd (by decide) c_4_0
  · have t_4_0 := c_4_0
    try simp only [kb_eq0, kb_ne0, lg_cmp_lt, lg_cmp_le, lg_cmp_gt, lg_cmp_ge, lg_cmp_eq] at t_4_0
    try simp only [Int32.lt_iff_toInt_lt, Int32.le_iff_toInt_le, ← Int32.toInt_inj, Int64.lt_iff_toInt_lt, Int64.le_iff_toInt_le, ← Int64.toInt_inj, Int32.toInt_toInt64, Int32.reduceToInt, Int64.reduceToInt] at t_4_0
    refine lv_iconst (v := 1) hx hb dX8_endsRecord_7 (by decide) ?_
    refine kIret (u := ()) hx hb hr rfl hlocks hS dX8_endsRecord_8 ?_ (hP.sub [0] rfl) (hD.sub [0] (by decide) rfl)
    exact rfl
set_option maxRecDepth 100000 in
theorem iX8_stop_X8 : ∀ w ∈ wsX80, w ∈ wsX8_stop := fun w h => (goodIn_r (big := wsX8_stop) wsX80 [17, 18, 19, 20, 21, 22, 23, 24, 25, 26, 27, 28, 29, 30, 31, 32, 33, 34, 35, 36, 37, 38, 39, 40, 41, 42, 43, 44, 45, 46, 47] rfl (by decide +kernel) w h).1
set_option maxRecDepth 100000 in
set_option maxHeartbeats 4000000 in
theorem r_stop (l : Launch) (D : va_G) (cI cL cB cZ cT : ClassId) (sz : Nat) (m0 mH mI mJ mS mD mX mA mB mW mL : Nat) (ac : Int64) : kM (S := Unit) l yX8_stop wsX8_stop ({ frames := 1, cells := 0, slots := 0, locals := 20 }) D (kT cI cL cB cZ cT) [.ref m0, .int 1] [(m0, .inr (8, [.ref mH, .int 0, .long 0, .int 0, .long 0, .int 0, .int 0, .int 0, .int 0, .int 0, .int 0, .long ac, .int 0, .int 0, .ref mI, .ref mJ, .ref mS, .ref mD, .int 0, .int 0, .int 0, .long 0, .ref mX, .int 0, .int 0, .int 0, .ref mA, .ref mB, .ref mW, .ref mL, .int 0]))] sz eI (fun r _ => r = 1) (fun _ => [(m0, .inr (8, [.ref mH, .int 0, .long 0, .int 0, .long 0, .int 0, .int 0, .int 0, .int 0, .int 0, .int 1, .long ac, .int 0, .int 0, .ref mI, .ref mJ, .ref mS, .ref mD, .int 0, .int 0, .int 0, .long 0, .ref mX, .int 0, .int 0, .int 0, .ref mA, .ref mB, .ref mW, .ref mL, .int 0]))]) 0 0 := by
  refine kStart (cc := cX8_stop) (maxL := 3) (ret := (some .int)) (own := RX8) (by decide) rfl rfl (Nat.le_of_ble_eq_true rfl) ?_
  intro p e s m args below meth c A ls hx hb hr hml hown hts hlocks hnm hsz hA hG hP hD hS hl
  have hK := hG.1
  have hl : lv_has ls 3 [(0, .ref m0), (1, .int 1)] := hl
  refine lv_aload_n hx hb dX8_stop_0 rfl (lv_at hl 0 rfl) ?_
  refine kCallI (wr := []) (va_runV (As := []) (rest := []) ⟨hx, hb, hml, hown, hts⟩ (r_endsRecord l D cI cL cB cZ cT _ m0 mH mI mJ mS mD mX mA mB mW mL ac) (cwV 0 hts gX8_stop_X8_endsRecord rfl rfl rfl (by decide +kernel) ⟨Nat.le_of_ble_eq_true rfl, Nat.le_of_ble_eq_true rfl⟩) (kPreV hG hP hD [0] rfl (by decide) 0 8 rfl rfl rfl) rfl rfl hl.1 rfl (lv_room (Nat.le_of_ble_eq_true rfl)) dX8_stop_1 ⟨Nat.le_of_ble_eq_true rfl, Nat.le_of_ble_eq_true rfl⟩) hA hP hD hS [0] [] rfl rfl (by decide) (by decide) (fun r_1 u_r_1 H locs wr_1 hP hD hS => ?_)
  have hP : va_P D vwCl [(m0, .inr (8, [.ref mH, .int 0, .long 0, .int 0, .long 0, .int 0, .int 0, .int 0, .int 0, .int 0, .int 0, .long ac, .int 0, .int 0, .ref mI, .ref mJ, .ref mS, .ref mD, .int 0, .int 0, .int 0, .long 0, .ref mX, .int 0, .int 0, .int 0, .ref mA, .ref mB, .ref mW, .ref mL, .int 0]))] H := hP
  have hD : va_D A [(m0, .inr (8, [.ref mH, .int 0, .long 0, .int 0, .long 0, .int 0, .int 0, .int 0, .int 0, .int 0, .int 0, .long ac, .int 0, .int 0, .ref mI, .ref mJ, .ref mS, .ref mD, .int 0, .int 0, .int 0, .long 0, .ref mX, .int 0, .int 0, .int 0, .ref mA, .ref mB, .ref mW, .ref mL, .int 0]))] := hD
  try dsimp only at wr_1
  subst wr_1
  refine lv_istore_n (lv' := [(2, .int 1), (0, .ref m0), (1, .int 1)]) hx hb dX8_stop_4 rfl hl (by decide) rfl (fun ls hl => ?_)
  refine lv_aload_n hx hb dX8_stop_5 rfl (lv_at hl 1 rfl) ?_
  refine lv_iconst (v := 0) hx hb dX8_stop_6 (by decide) ?_
  refine va_put (D := D) (ci := 8) (v := .int 0) (ty := .boolean) (C := RX8) (T := TX8) (N := 31) hx hb hts iX8_stop_X8 tyX8 tyX8_ok nmX8 hown hK hP hD hS 0 rfl rfl 13 (by decide) (hts (.fieldLink RX8 115 "TapeCalculatorModel" "isWritten" "Z") (List.mem_of_getElem? (i := 1) rfl)) (fun _ h9 => h9) rfl (by decide +kernel) rfl rfl (Nat.le_of_ble_eq_true rfl) dX8_stop_7 (fun H locs hP hD hS => ?_)
  have hP : va_P D vwCl [(m0, .inr (8, [.ref mH, .int 0, .long 0, .int 0, .long 0, .int 0, .int 0, .int 0, .int 0, .int 0, .int 0, .long ac, .int 0, .int 0, .ref mI, .ref mJ, .ref mS, .ref mD, .int 0, .int 0, .int 0, .long 0, .ref mX, .int 0, .int 0, .int 0, .ref mA, .ref mB, .ref mW, .ref mL, .int 0]))] H := hP
  have hD : va_D A [(m0, .inr (8, [.ref mH, .int 0, .long 0, .int 0, .long 0, .int 0, .int 0, .int 0, .int 0, .int 0, .int 0, .long ac, .int 0, .int 0, .ref mI, .ref mJ, .ref mS, .ref mD, .int 0, .int 0, .int 0, .long 0, .ref mX, .int 0, .int 0, .int 0, .ref mA, .ref mB, .ref mW, .ref mL, .int 0]))] := hD
  refine lv_aload_n hx hb dX8_stop_10 rfl (lv_at hl 1 rfl) ?_
  refine lv_iconst (v := 0) hx hb dX8_stop_11 (by decide) ?_
  refine va_put (D := D) (ci := 8) (v := .int 0) (ty := .int) (C := RX8) (T := TX8) (N := 31) hx hb hts iX8_stop_X8 tyX8 tyX8_ok nmX8 hown hK hP hD hS 0 rfl rfl 12 (by decide) (hts (.fieldLink RX8 43 "TapeCalculatorModel" "chosen" "I") (List.mem_of_getElem? (i := 2) rfl)) (fun _ h9 => h9) rfl (by decide +kernel) rfl rfl (Nat.le_of_ble_eq_true rfl) dX8_stop_12 (fun H locs hP hD hS => ?_)
  have hP : va_P D vwCl [(m0, .inr (8, [.ref mH, .int 0, .long 0, .int 0, .long 0, .int 0, .int 0, .int 0, .int 0, .int 0, .int 0, .long ac, .int 0, .int 0, .ref mI, .ref mJ, .ref mS, .ref mD, .int 0, .int 0, .int 0, .long 0, .ref mX, .int 0, .int 0, .int 0, .ref mA, .ref mB, .ref mW, .ref mL, .int 0]))] H := hP
  have hD : va_D A [(m0, .inr (8, [.ref mH, .int 0, .long 0, .int 0, .long 0, .int 0, .int 0, .int 0, .int 0, .int 0, .int 0, .long ac, .int 0, .int 0, .ref mI, .ref mJ, .ref mS, .ref mD, .int 0, .int 0, .int 0, .long 0, .ref mX, .int 0, .int 0, .int 0, .ref mA, .ref mB, .ref mW, .ref mL, .int 0]))] := hD
  refine lv_aload_n hx hb dX8_stop_15 rfl (lv_at hl 1 rfl) ?_
  refine lv_iload_n hx hb dX8_stop_16 rfl (lv_at hl 2 rfl) ?_
  refine va_put (D := D) (ci := 8) (v := .int 1) (ty := .int) (C := RX8) (T := TX8) (N := 31) hx hb hts iX8_stop_X8 tyX8 tyX8_ok nmX8 hown hK hP hD hS 0 rfl rfl 10 (by decide) (hts (.fieldLink RX8 87 "TapeCalculatorModel" "stopped" "I") (List.mem_of_getElem? (i := 3) rfl)) (fun _ h9 => h9) rfl (by decide +kernel) rfl rfl (Nat.le_of_ble_eq_true rfl) dX8_stop_17 (fun H locs hP hD hS => ?_)
  have hP : va_P D vwCl [(m0, .inr (8, [.ref mH, .int 0, .long 0, .int 0, .long 0, .int 0, .int 0, .int 0, .int 0, .int 0, .int 1, .long ac, .int 0, .int 0, .ref mI, .ref mJ, .ref mS, .ref mD, .int 0, .int 0, .int 0, .long 0, .ref mX, .int 0, .int 0, .int 0, .ref mA, .ref mB, .ref mW, .ref mL, .int 0]))] H := hP
  have hD : va_D A [(m0, .inr (8, [.ref mH, .int 0, .long 0, .int 0, .long 0, .int 0, .int 0, .int 0, .int 0, .int 0, .int 1, .long ac, .int 0, .int 0, .ref mI, .ref mJ, .ref mS, .ref mD, .int 0, .int 0, .int 0, .long 0, .ref mX, .int 0, .int 0, .int 0, .ref mA, .ref mB, .ref mW, .ref mL, .int 0]))] := hD
  refine lv_iload_n hx hb dX8_stop_20 rfl (lv_at hl 2 rfl) ?_
  refine kIret (u := ()) hx hb hr rfl hlocks hS dX8_stop_21 ?_ (hP.sub [0] rfl) (hD.sub [0] (by decide) rfl)
  exact rfl
set_option maxRecDepth 100000 in
set_option maxHeartbeats 4000000 in
theorem r_wants (l : Launch) (D : va_G) (cI cL cB cZ cT : ClassId) (sz : Nat)  : kM (S := Unit) l yX8_wants wsX8_wants ({ frames := 1, cells := 0, slots := 0, locals := 25 }) D (kT cI cL cB cZ cT) [.int 0] [] sz eI (fun r _ => r = 0) (fun _ => []) 0 0 := by
  refine kStart (cc := cX8_wants) (maxL := 1) (ret := (some .boolean)) (own := RX8) (by decide) rfl rfl (Nat.le_of_ble_eq_true rfl) ?_
  intro p e s m args below meth c A ls hx hb hr hml hown hts hlocks hnm hsz hA hG hP hD hS hl
  have hK := hG.1
  have hl : lv_has ls 1 [(0, .int 0)] := hl
  refine lv_iload_n hx hb dX8_wants_0 rfl (lv_at hl 0 rfl) ?_
  refine lv_i2l hx hb dX8_wants_1 rfl ?_
  refine lv_topl (fun x_1 ex_1 => ?_)
  obtain rfl : x_1 = 0 := ex_1.trans (by decide)
  refine lv_ldc2 (v := 5) hx hb hown (hts (.constantLong RX8 94 (5)) (List.mem_of_getElem? (i := 1) rfl)) dX8_wants_2 ?_
  refine lv_ldc2 (v := 7) hx hb hown (hts (.constantLong RX8 128 (7)) (List.mem_of_getElem? (i := 2) rfl)) dX8_wants_5 ?_
  refine kCallI (wr := []) (va_runS (As := [.long 0, .long 5, .long 7]) (rest := []) ⟨hx, hb, hml, hown, hts⟩ (r_in l D cI cL cB cZ cT _ 0 5 7) (va_cwS 3 hts gX8_wants_X8_in rfl rfl rfl (by decide +kernel) ⟨Nat.le_of_ble_eq_true rfl, Nat.le_of_ble_eq_true rfl⟩) (kPreS hG hP hD [] rfl (by decide)) rfl rfl hl.1 rfl (lv_room (Nat.le_of_ble_eq_true rfl)) dX8_wants_8 ⟨Nat.le_of_ble_eq_true rfl, Nat.le_of_ble_eq_true rfl⟩) hA hP hD hS [] [] rfl rfl (by decide) (by decide) (fun r_2 u_r_2 H locs wr_2 hP hD hS => ?_)
  have hP : va_P D vwCl [] H := hP
  have hD : va_D A [] := hD
  try dsimp only at wr_2
  subst wr_2
  refine lv_if_ne (tgt := 34) hx hb dX8_wants_11 (by decide) (fun c_11_2 => ?_) (fun c_11_2 => ?_)
  · have t_11_2 := c_11_2
    try simp only [kb_eq0, kb_ne0, lg_cmp_lt, lg_cmp_le, lg_cmp_gt, lg_cmp_ge, lg_cmp_eq] at t_11_2
    try simp only [Int32.lt_iff_toInt_lt, Int32.le_iff_toInt_le, ← Int32.toInt_inj, Int64.lt_iff_toInt_lt, Int64.le_iff_toInt_le, ← Int64.toInt_inj, Int32.toInt_toInt64, Int32.reduceToInt, Int64.reduceToInt] at t_11_2
    omega
  · have t_11_2 := c_11_2
    try simp only [kb_eq0, kb_ne0, lg_cmp_lt, lg_cmp_le, lg_cmp_gt, lg_cmp_ge, lg_cmp_eq] at t_11_2
    try simp only [Int32.lt_iff_toInt_lt, Int32.le_iff_toInt_le, ← Int32.toInt_inj, Int64.lt_iff_toInt_lt, Int64.le_iff_toInt_le, ← Int64.toInt_inj, Int32.toInt_toInt64, Int32.reduceToInt, Int64.reduceToInt] at t_11_2
    refine lv_iload_n hx hb dX8_wants_14 rfl (lv_at hl 0 rfl) ?_
    refine lv_i2l hx hb dX8_wants_15 rfl ?_
    refine lv_topl (fun x_4 ex_4 => ?_)
    obtain rfl : x_4 = 0 := ex_4.trans (by decide)
    refine lv_ldc2 (v := 9) hx hb hown (hts (.constantLong RX8 130 (9)) (List.mem_of_getElem? (i := 3) rfl)) dX8_wants_16 ?_
    refine lv_ldc2 (v := 18) hx hb hown (hts (.constantLong RX8 132 (18)) (List.mem_of_getElem? (i := 4) rfl)) dX8_wants_19 ?_
    refine kCallI (wr := []) (va_runS (As := [.long 0, .long 9, .long 18]) (rest := []) ⟨hx, hb, hml, hown, hts⟩ (r_in l D cI cL cB cZ cT _ 0 9 18) (va_cwS 3 hts gX8_wants_X8_in rfl rfl rfl (by decide +kernel) ⟨Nat.le_of_ble_eq_true rfl, Nat.le_of_ble_eq_true rfl⟩) (kPreS hG hP hD [] rfl (by decide)) rfl rfl hl.1 rfl (lv_room (Nat.le_of_ble_eq_true rfl)) dX8_wants_22 ⟨Nat.le_of_ble_eq_true rfl, Nat.le_of_ble_eq_true rfl⟩) hA hP hD hS [] [] rfl rfl (by decide) (by decide) (fun r_5 u_r_5 H locs wr_5 hP hD hS => ?_)
    have hP : va_P D vwCl [] H := hP
    have hD : va_D A [] := hD
    try dsimp only at wr_5
    subst wr_5
    refine lv_if_ne (tgt := 34) hx hb dX8_wants_25 (by decide) (fun c_25_5 => ?_) (fun c_25_5 => ?_)
    · have t_25_5 := c_25_5
      try simp only [kb_eq0, kb_ne0, lg_cmp_lt, lg_cmp_le, lg_cmp_gt, lg_cmp_ge, lg_cmp_eq] at t_25_5
      try simp only [Int32.lt_iff_toInt_lt, Int32.le_iff_toInt_le, ← Int32.toInt_inj, Int64.lt_iff_toInt_lt, Int64.le_iff_toInt_le, ← Int64.toInt_inj, Int32.toInt_toInt64, Int32.reduceToInt, Int64.reduceToInt] at t_25_5
      omega
    · have t_25_5 := c_25_5
      try simp only [kb_eq0, kb_ne0, lg_cmp_lt, lg_cmp_le, lg_cmp_gt, lg_cmp_ge, lg_cmp_eq] at t_25_5
      try simp only [Int32.lt_iff_toInt_lt, Int32.le_iff_toInt_le, ← Int32.toInt_inj, Int64.lt_iff_toInt_lt, Int64.le_iff_toInt_le, ← Int64.toInt_inj, Int32.toInt_toInt64, Int32.reduceToInt, Int64.reduceToInt] at t_25_5
      refine lv_iload_n hx hb dX8_wants_28 rfl (lv_at hl 0 rfl) ?_
      refine lv_bipush (v := 31) hx hb dX8_wants_29 (by decide) ?_
      refine lv_icmp_ne (tgt := 38) hx hb dX8_wants_31 (by decide) (fun c_31_6 => ?_) (fun c_31_6 => ?_)
      · have t_31_6 := c_31_6
        try simp only [kb_eq0, kb_ne0, lg_cmp_lt, lg_cmp_le, lg_cmp_gt, lg_cmp_ge, lg_cmp_eq] at t_31_6
        try simp only [Int32.lt_iff_toInt_lt, Int32.le_iff_toInt_le, ← Int32.toInt_inj, Int64.lt_iff_toInt_lt, Int64.le_iff_toInt_le, ← Int64.toInt_inj, Int32.toInt_toInt64, Int32.reduceToInt, Int64.reduceToInt] at t_31_6
        refine lv_iconst (v := 0) hx hb dX8_wants_38 (by decide) ?_
        refine kIret (u := ()) hx hb hr rfl hlocks hS dX8_wants_39 ?_ (hP.sub [] rfl) (hD.sub [] (by decide) rfl)
        exact rfl
      · exact absurd c_31_6 (by decide)
set_option maxRecDepth 100000 in
theorem iX8_act_X8 : ∀ w ∈ wsX80, w ∈ wsX8_act := fun w h => (goodIn_r (big := wsX8_act) wsX80 [138, 139, 140, 141, 142, 143, 144, 145, 146, 147, 148, 149, 150, 151, 152, 153, 154, 155, 156, 157, 158, 159, 160, 161, 162, 163, 164, 165, 166, 167, 168] rfl (by decide +kernel) w h).1
set_option maxRecDepth 100000 in
set_option maxHeartbeats 4000000 in
theorem r_act (l : Launch) (D : va_G) (cI cL cB cZ cT : ClassId) (sz : Nat) (m0 mH mI mJ mS mD mX mA mB mW mL : Nat) : kM (S := Unit) l yX8_act wsX8_act ({ frames := 2, cells := 0, slots := 0, locals := 45 }) D (kT cI cL cB cZ cT) [.ref m0] [(m0, .inr (8, [.ref mH, .int 0, .long 0, .int 0, .long 0, .int 0, .int 0, .int 0, .int 0, .int 0, .int 0, .long 0, .int 0, .int 0, .ref mI, .ref mJ, .ref mS, .ref mD, .int 0, .int 0, .int 0, .long 0, .ref mX, .int 0, .int 0, .int 0, .ref mA, .ref mB, .ref mW, .ref mL, .int 0])), (mH, .inl (cI, 512, .inl (fun _ => 0)))] sz eI (fun r _ => r = 1) (fun _ => [(m0, .inr (8, [.ref mH, .int 0, .long 0, .int 0, .long 0, .int 0, .int 0, .int 0, .int 0, .int 0, .int 1, .long 1, .int 0, .int 0, .ref mI, .ref mJ, .ref mS, .ref mD, .int 0, .int 0, .int 0, .long 0, .ref mX, .int 0, .int 0, .int 0, .ref mA, .ref mB, .ref mW, .ref mL, .int 0])), (mH, .inl (cI, 512, .inl (fun _ => 0)))]) 0 0 := by
  refine kStart (cc := cX8_act) (maxL := 5) (ret := (some .int)) (own := RX8) (by decide) rfl rfl (Nat.le_of_ble_eq_true rfl) ?_
  intro p e s m args below meth c A ls hx hb hr hml hown hts hlocks hnm hsz hA hG hP hD hS hl
  have hK := hG.1
  have hl : lv_has ls 5 [(0, .ref m0)] := hl
  refine lv_aload_n hx hb dX8_act_0 rfl (lv_at hl 0 rfl) ?_
  refine lv_dup hx hb dX8_act_1 rfl ?_
  refine va_get (D := D) (ci := 8) (v := .long 0) (C := RX8) (T := TX8) (N := 31) hx hb hts iX8_act_X8 hown hK hP 0 rfl rfl 11 (by decide) (hts (.fieldLink RX8 158 "TapeCalculatorModel" "acts" "J") (List.mem_of_getElem? (i := 1) rfl)) (fun _ h9 => h9) rfl dX8_act_2 ?_
  refine lv_lconst (v := 1) hx hb dX8_act_5 (by decide) ?_
  refine lv_ladd hx hb dX8_act_6 ?_
  refine lv_topl (fun x_1 ex_1 => ?_)
  obtain rfl : x_1 = 1 := ex_1.trans (by decide)
  refine va_put (D := D) (ci := 8) (v := .long 1) (ty := .long) (C := RX8) (T := TX8) (N := 31) hx hb hts iX8_act_X8 tyX8 tyX8_ok nmX8 hown hK hP hD hS 0 rfl rfl 11 (by decide) (hts (.fieldLink RX8 158 "TapeCalculatorModel" "acts" "J") (List.mem_of_getElem? (i := 1) rfl)) (fun _ h9 => h9) rfl (by decide +kernel) rfl rfl (Nat.le_of_ble_eq_true rfl) dX8_act_7 (fun H locs hP hD hS => ?_)
  have hP : va_P D vwCl [(m0, .inr (8, [.ref mH, .int 0, .long 0, .int 0, .long 0, .int 0, .int 0, .int 0, .int 0, .int 0, .int 0, .long 1, .int 0, .int 0, .ref mI, .ref mJ, .ref mS, .ref mD, .int 0, .int 0, .int 0, .long 0, .ref mX, .int 0, .int 0, .int 0, .ref mA, .ref mB, .ref mW, .ref mL, .int 0])), (mH, .inl (cI, 512, .inl (fun _ => 0)))] H := hP
  have hD : va_D A [(m0, .inr (8, [.ref mH, .int 0, .long 0, .int 0, .long 0, .int 0, .int 0, .int 0, .int 0, .int 0, .int 0, .long 1, .int 0, .int 0, .ref mI, .ref mJ, .ref mS, .ref mD, .int 0, .int 0, .int 0, .long 0, .ref mX, .int 0, .int 0, .int 0, .ref mA, .ref mB, .ref mW, .ref mL, .int 0])), (mH, .inl (cI, 512, .inl (fun _ => 0)))] := hD
  refine lv_aload_n hx hb dX8_act_10 rfl (lv_at hl 0 rfl) ?_
  refine va_get (D := D) (ci := 8) (v := .ref mH) (C := RX8) (T := TX8) (N := 31) hx hb hts iX8_act_X8 hown hK hP 0 rfl rfl 0 (by decide) (hts (.fieldLink RX8 7 "TapeCalculatorModel" "half" "[I") (List.mem_of_getElem? (i := 2) rfl)) (fun _ h9 => h9) rfl dX8_act_11 ?_
  refine lv_aload_n hx hb dX8_act_14 rfl (lv_at hl 0 rfl) ?_
  refine va_get (D := D) (ci := 8) (v := .int 0) (C := RX8) (T := TX8) (N := 31) hx hb hts iX8_act_X8 hown hK hP 0 rfl rfl 6 (by decide) (hts (.fieldLink RX8 78 "TapeCalculatorModel" "place" "I") (List.mem_of_getElem? (i := 3) rfl)) (fun _ h9 => h9) rfl dX8_act_15 ?_
  refine va_iald hx hb hK hP 1 0 rfl rfl (vp_in_iff.mpr (by decide)) dX8_act_18 ?_
  refine lv_istore_n (lv' := [(1, .int 0), (0, .ref m0)]) hx hb dX8_act_19 rfl hl (by decide) rfl (fun ls hl => ?_)
  refine lv_iload_n hx hb dX8_act_20 rfl (lv_at hl 0 rfl) ?_
  refine lv_bipush (v := 12) hx hb dX8_act_21 (by decide) ?_
  refine lv_ishr hx hb dX8_act_23 ?_
  refine lv_topi (fun x_2 ex_2 => ?_)
  obtain rfl : x_2 = 0 := ex_2.trans (by decide)
  refine lv_bipush (v := 31) hx hb dX8_act_24 (by decide) ?_
  refine lv_iand hx hb dX8_act_26 ?_
  refine lv_topi (fun x_3 ex_3 => ?_)
  obtain rfl : x_3 = 0 := ex_3.trans (by decide)
  refine lv_istore_n (lv' := [(2, .int 0), (1, .int 0), (0, .ref m0)]) hx hb dX8_act_27 rfl hl (by decide) rfl (fun ls hl => ?_)
  refine lv_aload_n hx hb dX8_act_28 rfl (lv_at hl 2 rfl) ?_
  refine lv_iload_n hx hb dX8_act_29 rfl (lv_at hl 1 rfl) ?_
  refine lv_bipush (v := 17) hx hb dX8_act_30 (by decide) ?_
  refine lv_ishr hx hb dX8_act_32 ?_
  refine lv_topi (fun x_4 ex_4 => ?_)
  obtain rfl : x_4 = 0 := ex_4.trans (by decide)
  refine lv_iconst (v := 1) hx hb dX8_act_33 (by decide) ?_
  refine lv_iand hx hb dX8_act_34 ?_
  refine lv_topi (fun x_5 ex_5 => ?_)
  obtain rfl : x_5 = 0 := ex_5.trans (by decide)
  refine lv_iconst (v := 1) hx hb dX8_act_35 (by decide) ?_
  refine lv_icmp_ne (tgt := 43) hx hb dX8_act_36 (by decide) (fun c_36_5 => ?_) (fun c_36_5 => ?_)
  · have t_36_5 := c_36_5
    try simp only [kb_eq0, kb_ne0, lg_cmp_lt, lg_cmp_le, lg_cmp_gt, lg_cmp_ge, lg_cmp_eq] at t_36_5
    try simp only [Int32.lt_iff_toInt_lt, Int32.le_iff_toInt_le, ← Int32.toInt_inj, Int64.lt_iff_toInt_lt, Int64.le_iff_toInt_le, ← Int64.toInt_inj, Int32.toInt_toInt64, Int32.reduceToInt, Int64.reduceToInt] at t_36_5
    refine lv_iconst (v := 0) hx hb dX8_act_43 (by decide) ?_
    refine va_put (D := D) (ci := 8) (v := .int 0) (ty := .boolean) (C := RX8) (T := TX8) (N := 31) hx hb hts iX8_act_X8 tyX8 tyX8_ok nmX8 hown hK hP hD hS 0 rfl rfl 18 (by decide) (hts (.fieldLink RX8 134 "TapeCalculatorModel" "isWhole" "Z") (List.mem_of_getElem? (i := 4) rfl)) (fun _ h9 => h9) rfl (by decide +kernel) rfl rfl (Nat.le_of_ble_eq_true rfl) dX8_act_44 (fun H locs hP hD hS => ?_)
    have hP : va_P D vwCl [(m0, .inr (8, [.ref mH, .int 0, .long 0, .int 0, .long 0, .int 0, .int 0, .int 0, .int 0, .int 0, .int 0, .long 1, .int 0, .int 0, .ref mI, .ref mJ, .ref mS, .ref mD, .int 0, .int 0, .int 0, .long 0, .ref mX, .int 0, .int 0, .int 0, .ref mA, .ref mB, .ref mW, .ref mL, .int 0])), (mH, .inl (cI, 512, .inl (fun _ => 0)))] H := hP
    have hD : va_D A [(m0, .inr (8, [.ref mH, .int 0, .long 0, .int 0, .long 0, .int 0, .int 0, .int 0, .int 0, .int 0, .int 0, .long 1, .int 0, .int 0, .ref mI, .ref mJ, .ref mS, .ref mD, .int 0, .int 0, .int 0, .long 0, .ref mX, .int 0, .int 0, .int 0, .ref mA, .ref mB, .ref mW, .ref mL, .int 0])), (mH, .inl (cI, 512, .inl (fun _ => 0)))] := hD
    refine lv_iload_n hx hb dX8_act_47 rfl (lv_at hl 1 rfl) ?_
    refine lv_sipush (v := 4095) hx hb dX8_act_48 (by decide) ?_
    refine lv_iand hx hb dX8_act_51 ?_
    refine lv_topi (fun x_7 ex_7 => ?_)
    obtain rfl : x_7 = 0 := ex_7.trans (by decide)
    refine lv_istore_n (lv' := [(3, .int 0), (2, .int 0), (1, .int 0), (0, .ref m0)]) hx hb dX8_act_52 rfl hl (by decide) rfl (fun ls hl => ?_)
    refine lv_aload_n hx hb dX8_act_53 rfl (lv_at hl 3 rfl) ?_
    refine lv_iload_n hx hb dX8_act_54 rfl (lv_at hl 1 rfl) ?_
    refine kCallI (wr := [(m0, .inr (8, [.ref mH, .int 0, .long 0, .int 0, .long 0, .int 0, .int 0, .int 0, .int 0, .int 0, .int 0, .long 1, .int 0, .int 0, .ref mI, .ref mJ, .ref mS, .ref mD, .int 0, .int 0, .int 0, .long 0, .ref mX, .int 0, .int 0, .int 0, .ref mA, .ref mB, .ref mW, .ref mL, .int 0])), (mH, .inl (cI, 512, .inl (fun _ => 0)))]) (va_runS (As := [.int 0]) (rest := [.ref m0]) ⟨hx, hb, hml, hown, hts⟩ (r_wants l D cI cL cB cZ cT _ ) (va_cwS 1 hts gX8_act_X8_wants rfl rfl rfl (by decide +kernel) ⟨Nat.le_of_ble_eq_true rfl, Nat.le_of_ble_eq_true rfl⟩) (kPreS hG hP hD [] rfl (by decide)) rfl rfl hl.1 rfl (lv_room (Nat.le_of_ble_eq_true rfl)) dX8_act_55 ⟨Nat.le_of_ble_eq_true rfl, Nat.le_of_ble_eq_true rfl⟩) hA hP hD hS [] [0, 1] rfl rfl (by decide) (by decide) (fun r_8 u_r_8 H locs wr_8 hP hD hS => ?_)
    have hP : va_P D vwCl [(m0, .inr (8, [.ref mH, .int 0, .long 0, .int 0, .long 0, .int 0, .int 0, .int 0, .int 0, .int 0, .int 0, .long 1, .int 0, .int 0, .ref mI, .ref mJ, .ref mS, .ref mD, .int 0, .int 0, .int 0, .long 0, .ref mX, .int 0, .int 0, .int 0, .ref mA, .ref mB, .ref mW, .ref mL, .int 0])), (mH, .inl (cI, 512, .inl (fun _ => 0)))] H := hP
    have hD : va_D A [(m0, .inr (8, [.ref mH, .int 0, .long 0, .int 0, .long 0, .int 0, .int 0, .int 0, .int 0, .int 0, .int 0, .long 1, .int 0, .int 0, .ref mI, .ref mJ, .ref mS, .ref mD, .int 0, .int 0, .int 0, .long 0, .ref mX, .int 0, .int 0, .int 0, .ref mA, .ref mB, .ref mW, .ref mL, .int 0])), (mH, .inl (cI, 512, .inl (fun _ => 0)))] := hD
    try dsimp only at wr_8
    subst wr_8
    refine lv_if_eq (tgt := 75) hx hb dX8_act_58 (by decide) (fun c_58_8 => ?_) (fun c_58_8 => ?_)
    · have t_58_8 := c_58_8
      try simp only [kb_eq0, kb_ne0, lg_cmp_lt, lg_cmp_le, lg_cmp_gt, lg_cmp_ge, lg_cmp_eq] at t_58_8
      try simp only [Int32.lt_iff_toInt_lt, Int32.le_iff_toInt_le, ← Int32.toInt_inj, Int64.lt_iff_toInt_lt, Int64.le_iff_toInt_le, ← Int64.toInt_inj, Int32.toInt_toInt64, Int32.reduceToInt, Int64.reduceToInt] at t_58_8
      refine lv_iload_n hx hb dX8_act_75 rfl (lv_at hl 0 rfl) ?_
      refine va_put (D := D) (ci := 8) (v := .int 0) (ty := .int) (C := RX8) (T := TX8) (N := 31) hx hb hts iX8_act_X8 tyX8 tyX8_ok nmX8 hown hK hP hD hS 0 rfl rfl 19 (by decide) (hts (.fieldLink RX8 137 "TapeCalculatorModel" "address" "I") (List.mem_of_getElem? (i := 5) rfl)) (fun _ h9 => h9) rfl (by decide +kernel) rfl rfl (Nat.le_of_ble_eq_true rfl) dX8_act_76 (fun H locs hP hD hS => ?_)
      have hP : va_P D vwCl [(m0, .inr (8, [.ref mH, .int 0, .long 0, .int 0, .long 0, .int 0, .int 0, .int 0, .int 0, .int 0, .int 0, .long 1, .int 0, .int 0, .ref mI, .ref mJ, .ref mS, .ref mD, .int 0, .int 0, .int 0, .long 0, .ref mX, .int 0, .int 0, .int 0, .ref mA, .ref mB, .ref mW, .ref mL, .int 0])), (mH, .inl (cI, 512, .inl (fun _ => 0)))] H := hP
      have hD : va_D A [(m0, .inr (8, [.ref mH, .int 0, .long 0, .int 0, .long 0, .int 0, .int 0, .int 0, .int 0, .int 0, .int 0, .long 1, .int 0, .int 0, .ref mI, .ref mJ, .ref mS, .ref mD, .int 0, .int 0, .int 0, .long 0, .ref mX, .int 0, .int 0, .int 0, .ref mA, .ref mB, .ref mW, .ref mL, .int 0])), (mH, .inl (cI, 512, .inl (fun _ => 0)))] := hD
      refine lv_iload_n hx hb dX8_act_79 rfl (lv_at hl 1 rfl) ?_
      refine kCallI (wr := [(m0, .inr (8, [.ref mH, .int 0, .long 0, .int 0, .long 0, .int 0, .int 0, .int 0, .int 0, .int 0, .int 0, .long 1, .int 0, .int 0, .ref mI, .ref mJ, .ref mS, .ref mD, .int 0, .int 0, .int 0, .long 0, .ref mX, .int 0, .int 0, .int 0, .ref mA, .ref mB, .ref mW, .ref mL, .int 0])), (mH, .inl (cI, 512, .inl (fun _ => 0)))]) (va_runS (As := [.int 0]) (rest := []) ⟨hx, hb, hml, hown, hts⟩ (r_wants l D cI cL cB cZ cT _ ) (va_cwS 1 hts gX8_act_X8_wants rfl rfl rfl (by decide +kernel) ⟨Nat.le_of_ble_eq_true rfl, Nat.le_of_ble_eq_true rfl⟩) (kPreS hG hP hD [] rfl (by decide)) rfl rfl hl.1 rfl (lv_room (Nat.le_of_ble_eq_true rfl)) dX8_act_80 ⟨Nat.le_of_ble_eq_true rfl, Nat.le_of_ble_eq_true rfl⟩) hA hP hD hS [] [0, 1] rfl rfl (by decide) (by decide) (fun r_10 u_r_10 H locs wr_10 hP hD hS => ?_)
      have hP : va_P D vwCl [(m0, .inr (8, [.ref mH, .int 0, .long 0, .int 0, .long 0, .int 0, .int 0, .int 0, .int 0, .int 0, .int 0, .long 1, .int 0, .int 0, .ref mI, .ref mJ, .ref mS, .ref mD, .int 0, .int 0, .int 0, .long 0, .ref mX, .int 0, .int 0, .int 0, .ref mA, .ref mB, .ref mW, .ref mL, .int 0])), (mH, .inl (cI, 512, .inl (fun _ => 0)))] H := hP
      have hD : va_D A [(m0, .inr (8, [.ref mH, .int 0, .long 0, .int 0, .long 0, .int 0, .int 0, .int 0, .int 0, .int 0, .int 0, .long 1, .int 0, .int 0, .ref mI, .ref mJ, .ref mS, .ref mD, .int 0, .int 0, .int 0, .long 0, .ref mX, .int 0, .int 0, .int 0, .ref mA, .ref mB, .ref mW, .ref mL, .int 0])), (mH, .inl (cI, 512, .inl (fun _ => 0)))] := hD
      try dsimp only at wr_10
      subst wr_10
      refine lv_if_ne (tgt := 91) hx hb dX8_act_83 (by decide) (fun c_83_10 => ?_) (fun c_83_10 => ?_)
      · exact absurd (by decide) c_83_10
      · have t_83_10 := c_83_10
        try simp only [kb_eq0, kb_ne0, lg_cmp_lt, lg_cmp_le, lg_cmp_gt, lg_cmp_ge, lg_cmp_eq] at t_83_10
        try simp only [Int32.lt_iff_toInt_lt, Int32.le_iff_toInt_le, ← Int32.toInt_inj, Int64.lt_iff_toInt_lt, Int64.le_iff_toInt_le, ← Int64.toInt_inj, Int32.toInt_toInt64, Int32.reduceToInt, Int64.reduceToInt] at t_83_10
        refine lv_iload_n hx hb dX8_act_86 rfl (lv_at hl 1 rfl) ?_
        refine lv_iconst (v := 5) hx hb dX8_act_87 (by decide) ?_
        refine lv_icmp_ge (tgt := 107) hx hb dX8_act_88 (by decide) (fun c_88_11 => ?_) (fun c_88_11 => ?_)
        · exact absurd c_88_11 (by decide)
        · have t_88_11 := c_88_11
          try simp only [kb_eq0, kb_ne0, lg_cmp_lt, lg_cmp_le, lg_cmp_gt, lg_cmp_ge, lg_cmp_eq] at t_88_11
          try simp only [Int32.lt_iff_toInt_lt, Int32.le_iff_toInt_le, ← Int32.toInt_inj, Int64.lt_iff_toInt_lt, Int64.le_iff_toInt_le, ← Int64.toInt_inj, Int32.toInt_toInt64, Int32.reduceToInt, Int64.reduceToInt] at t_88_11
          refine lv_aload_n hx hb dX8_act_91 rfl (lv_at hl 3 rfl) ?_
          refine va_get (D := D) (ci := 8) (v := .int 0) (C := RX8) (T := TX8) (N := 31) hx hb hts iX8_act_X8 hown hK hP 0 rfl rfl 19 (by decide) (hts (.fieldLink RX8 137 "TapeCalculatorModel" "address" "I") (List.mem_of_getElem? (i := 5) rfl)) (fun _ h9 => h9) rfl dX8_act_92 ?_
          refine lv_sipush (v := 511) hx hb dX8_act_95 (by decide) ?_
          refine lv_icmp_le (tgt := 107) hx hb dX8_act_98 (by decide) (fun c_98_12 => ?_) (fun c_98_12 => ?_)
          · have t_98_12 := c_98_12
            try simp only [kb_eq0, kb_ne0, lg_cmp_lt, lg_cmp_le, lg_cmp_gt, lg_cmp_ge, lg_cmp_eq] at t_98_12
            try simp only [Int32.lt_iff_toInt_lt, Int32.le_iff_toInt_le, ← Int32.toInt_inj, Int64.lt_iff_toInt_lt, Int64.le_iff_toInt_le, ← Int64.toInt_inj, Int32.toInt_toInt64, Int32.reduceToInt, Int64.reduceToInt] at t_98_12
            refine lv_iload_n hx hb dX8_act_107 rfl (lv_at hl 1 rfl) ?_
            refine lv_if_ne (tgt := 125) hx hb dX8_act_108 (by decide) (fun c_108_13 => ?_) (fun c_108_13 => ?_)
            · exact absurd (by decide) c_108_13
            · have t_108_13 := c_108_13
              try simp only [kb_eq0, kb_ne0, lg_cmp_lt, lg_cmp_le, lg_cmp_gt, lg_cmp_ge, lg_cmp_eq] at t_108_13
              try simp only [Int32.lt_iff_toInt_lt, Int32.le_iff_toInt_le, ← Int32.toInt_inj, Int64.lt_iff_toInt_lt, Int64.le_iff_toInt_le, ← Int64.toInt_inj, Int32.toInt_toInt64, Int32.reduceToInt, Int64.reduceToInt] at t_108_13
              refine lv_aload_n hx hb dX8_act_111 rfl (lv_at hl 3 rfl) ?_
              refine lv_aload_n hx hb dX8_act_112 rfl (lv_at hl 3 rfl) ?_
              refine va_get (D := D) (ci := 8) (v := .int 0) (C := RX8) (T := TX8) (N := 31) hx hb hts iX8_act_X8 hown hK hP 0 rfl rfl 19 (by decide) (hts (.fieldLink RX8 137 "TapeCalculatorModel" "address" "I") (List.mem_of_getElem? (i := 5) rfl)) (fun _ h9 => h9) rfl dX8_act_113 ?_
              refine va_put (D := D) (ci := 8) (v := .int 0) (ty := .int) (C := RX8) (T := TX8) (N := 31) hx hb hts iX8_act_X8 tyX8 tyX8_ok nmX8 hown hK hP hD hS 0 rfl rfl 6 (by decide) (hts (.fieldLink RX8 78 "TapeCalculatorModel" "place" "I") (List.mem_of_getElem? (i := 3) rfl)) (fun _ h9 => h9) rfl (by decide +kernel) rfl rfl (Nat.le_of_ble_eq_true rfl) dX8_act_116 (fun H locs hP hD hS => ?_)
              have hP : va_P D vwCl [(m0, .inr (8, [.ref mH, .int 0, .long 0, .int 0, .long 0, .int 0, .int 0, .int 0, .int 0, .int 0, .int 0, .long 1, .int 0, .int 0, .ref mI, .ref mJ, .ref mS, .ref mD, .int 0, .int 0, .int 0, .long 0, .ref mX, .int 0, .int 0, .int 0, .ref mA, .ref mB, .ref mW, .ref mL, .int 0])), (mH, .inl (cI, 512, .inl (fun _ => 0)))] H := hP
              have hD : va_D A [(m0, .inr (8, [.ref mH, .int 0, .long 0, .int 0, .long 0, .int 0, .int 0, .int 0, .int 0, .int 0, .int 0, .long 1, .int 0, .int 0, .ref mI, .ref mJ, .ref mS, .ref mD, .int 0, .int 0, .int 0, .long 0, .ref mX, .int 0, .int 0, .int 0, .ref mA, .ref mB, .ref mW, .ref mL, .int 0])), (mH, .inl (cI, 512, .inl (fun _ => 0)))] := hD
              refine lv_aload_n hx hb dX8_act_119 rfl (lv_at hl 3 rfl) ?_
              refine lv_iconst (v := 1) hx hb dX8_act_120 (by decide) ?_
              refine kCallI (wr := [(mH, .inl (cI, 512, .inl (fun _ => 0)))]) (va_runV (As := [.int 1]) (rest := []) ⟨hx, hb, hml, hown, hts⟩ (r_stop l D cI cL cB cZ cT _ m0 mH mI mJ mS mD mX mA mB mW mL 1) (cwV 1 hts gX8_act_X8_stop rfl rfl rfl (by decide +kernel) ⟨Nat.le_of_ble_eq_true rfl, Nat.le_of_ble_eq_true rfl⟩) (kPreV hG hP hD [0] rfl (by decide) 0 8 rfl rfl rfl) rfl rfl hl.1 rfl (lv_room (Nat.le_of_ble_eq_true rfl)) dX8_act_121 ⟨Nat.le_of_ble_eq_true rfl, Nat.le_of_ble_eq_true rfl⟩) hA hP hD hS [0] [1] rfl rfl (by decide) (by decide) (fun r_15 u_r_15 H locs wr_15 hP hD hS => ?_)
              have hP : va_P D vwCl [(mH, .inl (cI, 512, .inl (fun _ => 0))), (m0, .inr (8, [.ref mH, .int 0, .long 0, .int 0, .long 0, .int 0, .int 0, .int 0, .int 0, .int 0, .int 1, .long 1, .int 0, .int 0, .ref mI, .ref mJ, .ref mS, .ref mD, .int 0, .int 0, .int 0, .long 0, .ref mX, .int 0, .int 0, .int 0, .ref mA, .ref mB, .ref mW, .ref mL, .int 0]))] H := hP
              have hD : va_D A [(mH, .inl (cI, 512, .inl (fun _ => 0))), (m0, .inr (8, [.ref mH, .int 0, .long 0, .int 0, .long 0, .int 0, .int 0, .int 0, .int 0, .int 0, .int 1, .long 1, .int 0, .int 0, .ref mI, .ref mJ, .ref mS, .ref mD, .int 0, .int 0, .int 0, .long 0, .ref mX, .int 0, .int 0, .int 0, .ref mA, .ref mB, .ref mW, .ref mL, .int 0]))] := hD
              try dsimp only at wr_15
              subst wr_15
              refine kIret (u := ()) hx hb hr rfl hlocks hS dX8_act_124 ?_ (hP.sub [1, 0] rfl) (hD.sub [1, 0] (by decide) rfl)
              exact rfl
          · exact absurd (by decide) c_98_12
    · exact absurd (by decide) c_58_8
  · exact absurd c_36_5 (by decide)
set_option maxRecDepth 100000 in
theorem iX8_run_X8 : ∀ w ∈ wsX80, w ∈ wsX8_run := fun w h => (goodIn_r (big := wsX8_run) wsX80 [143, 144, 145, 146, 147, 148, 149, 150, 151, 152, 153, 154, 155, 156, 157, 158, 159, 160, 161, 162, 163, 164, 165, 166, 167, 168, 169, 170, 171, 172, 173] rfl (by decide +kernel) w h).1
set_option maxRecDepth 100000 in
set_option maxHeartbeats 4000000 in
theorem r_run (l : Launch) (D : va_G) (cI cL cB cZ cT : ClassId) (sz : Nat) (m0 mH mI mJ mS mD mX mA mB mW mL : Nat) (n : Int32) : kM (S := (Int32 × Int64)) l yX8_run wsX8_run ({ frames := 3, cells := 0, slots := 0, locals := 69 }) D (kT cI cL cB cZ cT) [.ref m0, .int n] [(m0, .inr (8, [.ref mH, .int 0, .long 0, .int 0, .long 0, .int 0, .int 0, .int 0, .int 0, .int 0, .int 0, .long 0, .int 0, .int 0, .ref mI, .ref mJ, .ref mS, .ref mD, .int 0, .int 0, .int 0, .long 0, .ref mX, .int 0, .int 0, .int 0, .ref mA, .ref mB, .ref mW, .ref mL, .int 0])), (mH, .inl (cI, 512, .inl (fun _ => 0)))] sz eI (fun r _ => r = (kif (0 ≤ n.toInt ∧ n.toInt ≤ 20000) (kif (n.toInt = 0) 0 1) (-1))) (fun u => [(m0, .inr (8, [.ref mH, .int 0, .long 0, .int 0, .long 0, .int 0, .int 0, .int 0, .int 0, .int 0, .int u.1, .long u.2, .int 0, .int 0, .ref mI, .ref mJ, .ref mS, .ref mD, .int 0, .int 0, .int 0, .long 0, .ref mX, .int 0, .int 0, .int 0, .ref mA, .ref mB, .ref mW, .ref mL, .int 0])), (mH, .inl (cI, 512, .inl (fun _ => 0)))]) 0 0 := by
  refine kStart (cc := cX8_run) (maxL := 4) (ret := (some .int)) (own := RX8) (by decide) rfl rfl (Nat.le_of_ble_eq_true rfl) ?_
  intro p e s m args below meth c A ls hx hb hr hml hown hts hlocks hnm hsz hA hG hP hD hS hl
  have hK := hG.1
  have hl : lv_has ls 4 [(0, .ref m0), (1, .int n)] := hl
  refine lv_iload_n hx hb dX8_run_0 rfl (lv_at hl 1 rfl) ?_
  refine lv_i2l hx hb dX8_run_1 rfl ?_
  refine lv_lconst (v := 0) hx hb dX8_run_2 (by decide) ?_
  refine lv_ldc2 (v := 20000) hx hb hown (hts (.constantLong RX8 236 (20000)) (List.mem_of_getElem? (i := 1) rfl)) dX8_run_3 ?_
  refine kCallI (wr := [(m0, .inr (8, [.ref mH, .int 0, .long 0, .int 0, .long 0, .int 0, .int 0, .int 0, .int 0, .int 0, .int 0, .long 0, .int 0, .int 0, .ref mI, .ref mJ, .ref mS, .ref mD, .int 0, .int 0, .int 0, .long 0, .ref mX, .int 0, .int 0, .int 0, .ref mA, .ref mB, .ref mW, .ref mL, .int 0])), (mH, .inl (cI, 512, .inl (fun _ => 0)))]) (va_runS (As := [.long n.toInt64, .long 0, .long 20000]) (rest := []) ⟨hx, hb, hml, hown, hts⟩ (r_in l D cI cL cB cZ cT _ (n.toInt64) 0 20000) (va_cwS 3 hts gX8_run_X8_in rfl rfl rfl (by decide +kernel) ⟨Nat.le_of_ble_eq_true rfl, Nat.le_of_ble_eq_true rfl⟩) (kPreS hG hP hD [] rfl (by decide)) rfl rfl hl.1 rfl (lv_room (Nat.le_of_ble_eq_true rfl)) dX8_run_6 ⟨Nat.le_of_ble_eq_true rfl, Nat.le_of_ble_eq_true rfl⟩) hA hP hD hS [] [0, 1] rfl rfl (by decide) (by decide) (fun r_1 u_r_1 H locs wr_1 hP hD hS => ?_)
  have hP : va_P D vwCl [(m0, .inr (8, [.ref mH, .int 0, .long 0, .int 0, .long 0, .int 0, .int 0, .int 0, .int 0, .int 0, .int 0, .long 0, .int 0, .int 0, .ref mI, .ref mJ, .ref mS, .ref mD, .int 0, .int 0, .int 0, .long 0, .ref mX, .int 0, .int 0, .int 0, .ref mA, .ref mB, .ref mW, .ref mL, .int 0])), (mH, .inl (cI, 512, .inl (fun _ => 0)))] H := hP
  have hD : va_D A [(m0, .inr (8, [.ref mH, .int 0, .long 0, .int 0, .long 0, .int 0, .int 0, .int 0, .int 0, .int 0, .int 0, .long 0, .int 0, .int 0, .ref mI, .ref mJ, .ref mS, .ref mD, .int 0, .int 0, .int 0, .long 0, .ref mX, .int 0, .int 0, .int 0, .ref mA, .ref mB, .ref mW, .ref mL, .int 0])), (mH, .inl (cI, 512, .inl (fun _ => 0)))] := hD
  try dsimp only at wr_1
  subst wr_1
  refine lv_if_ne (tgt := 14) hx hb dX8_run_9 (by decide) (fun c_9_1 => ?_) (fun c_9_1 => ?_)
  · have t_9_1 := c_9_1
    try simp only [kb_eq0, kb_ne0, lg_cmp_lt, lg_cmp_le, lg_cmp_gt, lg_cmp_ge, lg_cmp_eq] at t_9_1
    try simp only [Int32.lt_iff_toInt_lt, Int32.le_iff_toInt_le, ← Int32.toInt_inj, Int64.lt_iff_toInt_lt, Int64.le_iff_toInt_le, ← Int64.toInt_inj, Int32.toInt_toInt64, Int32.reduceToInt, Int64.reduceToInt] at t_9_1
    refine lv_aload_n hx hb dX8_run_14 rfl (lv_at hl 0 rfl) ?_
    refine lv_iconst (v := 0) hx hb dX8_run_15 (by decide) ?_
    refine va_put (D := D) (ci := 8) (v := .int 0) (ty := .int) (C := RX8) (T := TX8) (N := 31) hx hb hts iX8_run_X8 tyX8 tyX8_ok nmX8 hown hK hP hD hS 0 rfl rfl 10 (by decide) (hts (.fieldLink RX8 87 "TapeCalculatorModel" "stopped" "I") (List.mem_of_getElem? (i := 2) rfl)) (fun _ h9 => h9) rfl (by decide +kernel) rfl rfl (Nat.le_of_ble_eq_true rfl) dX8_run_16 (fun H locs hP hD hS => ?_)
    have hP : va_P D vwCl [(m0, .inr (8, [.ref mH, .int 0, .long 0, .int 0, .long 0, .int 0, .int 0, .int 0, .int 0, .int 0, .int 0, .long 0, .int 0, .int 0, .ref mI, .ref mJ, .ref mS, .ref mD, .int 0, .int 0, .int 0, .long 0, .ref mX, .int 0, .int 0, .int 0, .ref mA, .ref mB, .ref mW, .ref mL, .int 0])), (mH, .inl (cI, 512, .inl (fun _ => 0)))] H := hP
    have hD : va_D A [(m0, .inr (8, [.ref mH, .int 0, .long 0, .int 0, .long 0, .int 0, .int 0, .int 0, .int 0, .int 0, .int 0, .long 0, .int 0, .int 0, .ref mI, .ref mJ, .ref mS, .ref mD, .int 0, .int 0, .int 0, .long 0, .ref mX, .int 0, .int 0, .int 0, .ref mA, .ref mB, .ref mW, .ref mL, .int 0])), (mH, .inl (cI, 512, .inl (fun _ => 0)))] := hD
    refine lv_iconst (v := 0) hx hb dX8_run_19 (by decide) ?_
    refine lv_istore_n (lv' := [(2, .int 0), (0, .ref m0), (1, .int n)]) hx hb dX8_run_20 rfl hl (by decide) rfl (fun ls hl => ?_)
    refine lv_iload_n hx hb dX8_run_21 rfl (lv_at hl 0 rfl) ?_
    refine lv_iload_n hx hb dX8_run_22 rfl (lv_at hl 2 rfl) ?_
    refine lv_icmp_ge (tgt := 44) hx hb dX8_run_23 (by decide) (fun c_23_2 => ?_) (fun c_23_2 => ?_)
    · have t_23_2 := c_23_2
      try simp only [kb_eq0, kb_ne0, lg_cmp_lt, lg_cmp_le, lg_cmp_gt, lg_cmp_ge, lg_cmp_eq] at t_23_2
      try simp only [Int32.lt_iff_toInt_lt, Int32.le_iff_toInt_le, ← Int32.toInt_inj, Int64.lt_iff_toInt_lt, Int64.le_iff_toInt_le, ← Int64.toInt_inj, Int32.toInt_toInt64, Int32.reduceToInt, Int64.reduceToInt] at t_23_2
      refine lv_iload_n hx hb dX8_run_44 rfl (lv_at hl 0 rfl) ?_
      refine kIret (u := (0, 0)) hx hb hr rfl hlocks hS dX8_run_45 ?_ (hP.sub [0, 1] rfl) (hD.sub [0, 1] (by decide) rfl)
      first
        | exact (kif_f (by omega)).symm
        | exact ((kif_t (by omega)).trans (kif_t (by omega))).symm
        | exact ((kif_t (by omega)).trans (kif_f (by omega))).symm
    · have t_23_2 := c_23_2
      try simp only [kb_eq0, kb_ne0, lg_cmp_lt, lg_cmp_le, lg_cmp_gt, lg_cmp_ge, lg_cmp_eq] at t_23_2
      try simp only [Int32.lt_iff_toInt_lt, Int32.le_iff_toInt_le, ← Int32.toInt_inj, Int64.lt_iff_toInt_lt, Int64.le_iff_toInt_le, ← Int64.toInt_inj, Int32.toInt_toInt64, Int32.reduceToInt, Int64.reduceToInt] at t_23_2
      refine lv_aload_n hx hb dX8_run_26 rfl (lv_at hl 1 rfl) ?_
      refine va_get (D := D) (ci := 8) (v := .int 0) (C := RX8) (T := TX8) (N := 31) hx hb hts iX8_run_X8 hown hK hP 0 rfl rfl 10 (by decide) (hts (.fieldLink RX8 87 "TapeCalculatorModel" "stopped" "I") (List.mem_of_getElem? (i := 2) rfl)) (fun _ h9 => h9) rfl dX8_run_27 ?_
      refine lv_if_ne (tgt := 44) hx hb dX8_run_30 (by decide) (fun c_30_3 => ?_) (fun c_30_3 => ?_)
      · exact absurd (by decide) c_30_3
      · have t_30_3 := c_30_3
        try simp only [kb_eq0, kb_ne0, lg_cmp_lt, lg_cmp_le, lg_cmp_gt, lg_cmp_ge, lg_cmp_eq] at t_30_3
        try simp only [Int32.lt_iff_toInt_lt, Int32.le_iff_toInt_le, ← Int32.toInt_inj, Int64.lt_iff_toInt_lt, Int64.le_iff_toInt_le, ← Int64.toInt_inj, Int32.toInt_toInt64, Int32.reduceToInt, Int64.reduceToInt] at t_30_3
        refine lv_aload_n hx hb dX8_run_33 rfl (lv_at hl 1 rfl) ?_
        refine kCallI (wr := []) (va_runV (As := []) (rest := []) ⟨hx, hb, hml, hown, hts⟩ (r_act l D cI cL cB cZ cT _ m0 mH mI mJ mS mD mX mA mB mW mL) (cwV 0 hts gX8_run_X8_act rfl rfl rfl (by decide +kernel) ⟨Nat.le_of_ble_eq_true rfl, Nat.le_of_ble_eq_true rfl⟩) (kPreV hG hP hD [0, 1] rfl (by decide) 0 8 rfl rfl rfl) rfl rfl hl.1 rfl (lv_room (Nat.le_of_ble_eq_true rfl)) dX8_run_34 ⟨Nat.le_of_ble_eq_true rfl, Nat.le_of_ble_eq_true rfl⟩) hA hP hD hS [0, 1] [] rfl rfl (by decide) (by decide) (fun r_5 u_r_5 H locs wr_5 hP hD hS => ?_)
        have hP : va_P D vwCl [(m0, .inr (8, [.ref mH, .int 0, .long 0, .int 0, .long 0, .int 0, .int 0, .int 0, .int 0, .int 0, .int 1, .long 1, .int 0, .int 0, .ref mI, .ref mJ, .ref mS, .ref mD, .int 0, .int 0, .int 0, .long 0, .ref mX, .int 0, .int 0, .int 0, .ref mA, .ref mB, .ref mW, .ref mL, .int 0])), (mH, .inl (cI, 512, .inl (fun _ => 0)))] H := hP
        have hD : va_D A [(m0, .inr (8, [.ref mH, .int 0, .long 0, .int 0, .long 0, .int 0, .int 0, .int 0, .int 0, .int 0, .int 1, .long 1, .int 0, .int 0, .ref mI, .ref mJ, .ref mS, .ref mD, .int 0, .int 0, .int 0, .long 0, .ref mX, .int 0, .int 0, .int 0, .ref mA, .ref mB, .ref mW, .ref mL, .int 0])), (mH, .inl (cI, 512, .inl (fun _ => 0)))] := hD
        try dsimp only at wr_5
        subst wr_5
        refine lv_istore_n (lv' := [(3, .int 1), (2, .int 0), (0, .ref m0), (1, .int n)]) hx hb dX8_run_37 rfl hl (by decide) rfl (fun ls hl => ?_)
        refine lv_iinc (v := 1) (lv' := [(2, .int 1), (3, .int 1), (0, .ref m0), (1, .int n)]) hx hb dX8_run_38 hl (k := 1) rfl (by decide) (by decide) rfl (fun ls hl => ?_)
        refine lv_goto (tgt := 21) hx hb dX8_run_41 (by decide) ?_
        refine lv_iload_n hx hb dX8_run_21 rfl (lv_at hl 0 rfl) ?_
        refine lv_iload_n hx hb dX8_run_22 rfl (lv_at hl 3 rfl) ?_
        refine lv_icmp_ge (tgt := 44) hx hb dX8_run_23 (by decide) (fun c_23_5 => ?_) (fun c_23_5 => ?_)
        · have t_23_5 := c_23_5
          try simp only [kb_eq0, kb_ne0, lg_cmp_lt, lg_cmp_le, lg_cmp_gt, lg_cmp_ge, lg_cmp_eq] at t_23_5
          try simp only [Int32.lt_iff_toInt_lt, Int32.le_iff_toInt_le, ← Int32.toInt_inj, Int64.lt_iff_toInt_lt, Int64.le_iff_toInt_le, ← Int64.toInt_inj, Int32.toInt_toInt64, Int32.reduceToInt, Int64.reduceToInt] at t_23_5
          refine lv_iload_n hx hb dX8_run_44 rfl (lv_at hl 0 rfl) ?_
          refine kIret (u := (1, 1)) hx hb hr rfl hlocks hS dX8_run_45 ?_ (hP.sub [0, 1] rfl) (hD.sub [0, 1] (by decide) rfl)
          first
            | exact (kif_f (by omega)).symm
            | exact ((kif_t (by omega)).trans (kif_t (by omega))).symm
            | exact ((kif_t (by omega)).trans (kif_f (by omega))).symm
        · have t_23_5 := c_23_5
          try simp only [kb_eq0, kb_ne0, lg_cmp_lt, lg_cmp_le, lg_cmp_gt, lg_cmp_ge, lg_cmp_eq] at t_23_5
          try simp only [Int32.lt_iff_toInt_lt, Int32.le_iff_toInt_le, ← Int32.toInt_inj, Int64.lt_iff_toInt_lt, Int64.le_iff_toInt_le, ← Int64.toInt_inj, Int32.toInt_toInt64, Int32.reduceToInt, Int64.reduceToInt] at t_23_5
          refine lv_aload_n hx hb dX8_run_26 rfl (lv_at hl 2 rfl) ?_
          refine va_get (D := D) (ci := 8) (v := .int 1) (C := RX8) (T := TX8) (N := 31) hx hb hts iX8_run_X8 hown hK hP 0 rfl rfl 10 (by decide) (hts (.fieldLink RX8 87 "TapeCalculatorModel" "stopped" "I") (List.mem_of_getElem? (i := 2) rfl)) (fun _ h9 => h9) rfl dX8_run_27 ?_
          refine lv_if_ne (tgt := 44) hx hb dX8_run_30 (by decide) (fun c_30_6 => ?_) (fun c_30_6 => ?_)
          · have t_30_6 := c_30_6
            try simp only [kb_eq0, kb_ne0, lg_cmp_lt, lg_cmp_le, lg_cmp_gt, lg_cmp_ge, lg_cmp_eq] at t_30_6
            try simp only [Int32.lt_iff_toInt_lt, Int32.le_iff_toInt_le, ← Int32.toInt_inj, Int64.lt_iff_toInt_lt, Int64.le_iff_toInt_le, ← Int64.toInt_inj, Int32.toInt_toInt64, Int32.reduceToInt, Int64.reduceToInt] at t_30_6
            refine lv_iload_n hx hb dX8_run_44 rfl (lv_at hl 0 rfl) ?_
            refine kIret (u := (1, 1)) hx hb hr rfl hlocks hS dX8_run_45 ?_ (hP.sub [0, 1] rfl) (hD.sub [0, 1] (by decide) rfl)
            first
              | exact (kif_f (by omega)).symm
              | exact ((kif_t (by omega)).trans (kif_t (by omega))).symm
              | exact ((kif_t (by omega)).trans (kif_f (by omega))).symm
          · exact absurd c_30_6 (by decide)
  · have t_9_1 := c_9_1
    try simp only [kb_eq0, kb_ne0, lg_cmp_lt, lg_cmp_le, lg_cmp_gt, lg_cmp_ge, lg_cmp_eq] at t_9_1
    try simp only [Int32.lt_iff_toInt_lt, Int32.le_iff_toInt_le, ← Int32.toInt_inj, Int64.lt_iff_toInt_lt, Int64.le_iff_toInt_le, ← Int64.toInt_inj, Int32.toInt_toInt64, Int32.reduceToInt, Int64.reduceToInt] at t_9_1
    refine lv_iconst (v := (-1)) hx hb dX8_run_12 (by decide) ?_
    refine kIret (u := (0, 0)) hx hb hr rfl hlocks hS dX8_run_13 ?_ (hP.sub [0, 1] rfl) (hD.sub [0, 1] (by decide) rfl)
    first
      | exact (kif_f (by omega)).symm
      | exact ((kif_t (by omega)).trans (kif_t (by omega))).symm
      | exact ((kif_t (by omega)).trans (kif_f (by omega))).symm
set_option maxRecDepth 100000 in
theorem iX8_step_X8 : ∀ w ∈ wsX80, w ∈ wsX8_step := fun w h => (goodIn_r (big := wsX8_step) wsX80 [142, 143, 144, 145, 146, 147, 148, 149, 150, 151, 152, 153, 154, 155, 156, 157, 158, 159, 160, 161, 162, 163, 164, 165, 166, 167, 168, 169, 170, 171, 172] rfl (by decide +kernel) w h).1
set_option maxRecDepth 100000 in
set_option maxHeartbeats 4000000 in
theorem r_step (l : Launch) (D : va_G) (cI cL cB cZ cT : ClassId) (sz : Nat) (m0 mH mI mJ mS mD mX mA mB mW mL : Nat) : kM (S := (Int32 × Int64)) l yX8_step wsX8_step ({ frames := 3, cells := 0, slots := 0, locals := 69 }) D (kT cI cL cB cZ cT) [.ref m0] [(m0, .inr (8, [.ref mH, .int 0, .long 0, .int 0, .long 0, .int 0, .int 0, .int 0, .int 0, .int 0, .int 0, .long 0, .int 0, .int 0, .ref mI, .ref mJ, .ref mS, .ref mD, .int 0, .int 0, .int 0, .long 0, .ref mX, .int 0, .int 0, .int 0, .ref mA, .ref mB, .ref mW, .ref mL, .int 0])), (mH, .inl (cI, 512, .inl (fun _ => 0)))] sz eI (fun r _ => r = 1) (fun u => [(m0, .inr (8, [.ref mH, .int 0, .long 0, .int 0, .long 0, .int 0, .int 0, .int 0, .int 0, .int 0, .int u.1, .long u.2, .int 0, .int 0, .ref mI, .ref mJ, .ref mS, .ref mD, .int 0, .int 0, .int 0, .long 0, .ref mX, .int 0, .int 0, .int 0, .ref mA, .ref mB, .ref mW, .ref mL, .int 0])), (mH, .inl (cI, 512, .inl (fun _ => 0)))]) 0 0 := by
  refine kStart (cc := cX8_step) (maxL := 1) (ret := (some .int)) (own := RX8) (by decide) rfl rfl (Nat.le_of_ble_eq_true rfl) ?_
  intro p e s m args below meth c A ls hx hb hr hml hown hts hlocks hnm hsz hA hG hP hD hS hl
  have hK := hG.1
  have hl : lv_has ls 1 [(0, .ref m0)] := hl
  refine lv_aload_n hx hb dX8_step_0 rfl (lv_at hl 0 rfl) ?_
  refine lv_iconst (v := 0) hx hb dX8_step_1 (by decide) ?_
  refine va_put (D := D) (ci := 8) (v := .int 0) (ty := .int) (C := RX8) (T := TX8) (N := 31) hx hb hts iX8_step_X8 tyX8 tyX8_ok nmX8 hown hK hP hD hS 0 rfl rfl 10 (by decide) (hts (.fieldLink RX8 87 "TapeCalculatorModel" "stopped" "I") (List.mem_of_getElem? (i := 1) rfl)) (fun _ h9 => h9) rfl (by decide +kernel) rfl rfl (Nat.le_of_ble_eq_true rfl) dX8_step_2 (fun H locs hP hD hS => ?_)
  have hP : va_P D vwCl [(m0, .inr (8, [.ref mH, .int 0, .long 0, .int 0, .long 0, .int 0, .int 0, .int 0, .int 0, .int 0, .int 0, .long 0, .int 0, .int 0, .ref mI, .ref mJ, .ref mS, .ref mD, .int 0, .int 0, .int 0, .long 0, .ref mX, .int 0, .int 0, .int 0, .ref mA, .ref mB, .ref mW, .ref mL, .int 0])), (mH, .inl (cI, 512, .inl (fun _ => 0)))] H := hP
  have hD : va_D A [(m0, .inr (8, [.ref mH, .int 0, .long 0, .int 0, .long 0, .int 0, .int 0, .int 0, .int 0, .int 0, .int 0, .long 0, .int 0, .int 0, .ref mI, .ref mJ, .ref mS, .ref mD, .int 0, .int 0, .int 0, .long 0, .ref mX, .int 0, .int 0, .int 0, .ref mA, .ref mB, .ref mW, .ref mL, .int 0])), (mH, .inl (cI, 512, .inl (fun _ => 0)))] := hD
  refine lv_aload_n hx hb dX8_step_5 rfl (lv_at hl 0 rfl) ?_
  refine kCallI (wr := []) (va_runV (As := []) (rest := []) ⟨hx, hb, hml, hown, hts⟩ (r_act l D cI cL cB cZ cT _ m0 mH mI mJ mS mD mX mA mB mW mL) (cwV 0 hts gX8_step_X8_act rfl rfl rfl (by decide +kernel) ⟨Nat.le_of_ble_eq_true rfl, Nat.le_of_ble_eq_true rfl⟩) (kPreV hG hP hD [0, 1] rfl (by decide) 0 8 rfl rfl rfl) rfl rfl hl.1 rfl (lv_room (Nat.le_of_ble_eq_true rfl)) dX8_step_6 ⟨Nat.le_of_ble_eq_true rfl, Nat.le_of_ble_eq_true rfl⟩) hA hP hD hS [0, 1] [] rfl rfl (by decide) (by decide) (fun r_1 u_r_1 H locs wr_1 hP hD hS => ?_)
  have hP : va_P D vwCl [(m0, .inr (8, [.ref mH, .int 0, .long 0, .int 0, .long 0, .int 0, .int 0, .int 0, .int 0, .int 0, .int 1, .long 1, .int 0, .int 0, .ref mI, .ref mJ, .ref mS, .ref mD, .int 0, .int 0, .int 0, .long 0, .ref mX, .int 0, .int 0, .int 0, .ref mA, .ref mB, .ref mW, .ref mL, .int 0])), (mH, .inl (cI, 512, .inl (fun _ => 0)))] H := hP
  have hD : va_D A [(m0, .inr (8, [.ref mH, .int 0, .long 0, .int 0, .long 0, .int 0, .int 0, .int 0, .int 0, .int 0, .int 1, .long 1, .int 0, .int 0, .ref mI, .ref mJ, .ref mS, .ref mD, .int 0, .int 0, .int 0, .long 0, .ref mX, .int 0, .int 0, .int 0, .ref mA, .ref mB, .ref mW, .ref mL, .int 0])), (mH, .inl (cI, 512, .inl (fun _ => 0)))] := hD
  try dsimp only at wr_1
  subst wr_1
  refine kIret (u := (1, 1)) hx hb hr rfl hlocks hS dX8_step_9 ?_ (hP.sub [0, 1] rfl) (hD.sub [0, 1] (by decide) rfl)
  exact rfl
