theorem k_divL {n : Int32} (h : 0 ≤ n.toInt ∧ n.toInt ≤ 4095) : (n / 1).toInt = n.toInt ∧ (n / 10).toInt = n.toInt / 10 ∧ (n / 100).toInt = n.toInt / 100 ∧ (n / 1000).toInt = n.toInt / 1000 := by
  obtain ⟨j, hj, rfl⟩ := nI_of (x := n) (by rw [Int32.lt_iff_toInt_lt]; simp only [Int32.reduceToInt]; omega)
  have e1 : nI j / 1 = nI (j / 1) := pk_div hj (d := 1) (by omega) (by omega)
  have e2 : nI j / 10 = nI (j / 10) := pk_div hj (d := 10) (by omega) (by omega)
  have e3 : nI j / 100 = nI (j / 100) := pk_div hj (d := 100) (by omega) (by omega)
  have e4 : nI j / 1000 = nI (j / 1000) := pk_div hj (d := 1000) (by omega) (by omega)
  rw [nI_toInt hj] at h
  rw [e1, e2, e3, e4, nI_toInt hj, nI_toInt (by omega), nI_toInt (by omega), nI_toInt (by omega), nI_toInt (by omega)]
  omega
set_option maxRecDepth 100000 in
theorem iX8_write_X8 : ∀ w ∈ wsX80, w ∈ wsX8_write := fun w h => (goodIn_r (big := wsX8_write) wsX80 [3, 4, 5, 6, 7, 8, 9, 10, 11, 12, 13, 14, 15, 16, 17, 18, 19, 20, 21, 22, 23, 24, 25, 26, 27, 28, 29, 30, 31, 32, 33] rfl (by decide +kernel) w h).1
set_option maxRecDepth 100000 in
set_option maxHeartbeats 4000000 in
theorem q_write (l : Launch) (D : va_G) (cI cL cB cZ cT : ClassId) (sz : Nat) (m0 mH mI mJ mS mD mX mA mB mW mL : Nat) (aM : Int32) (aC : Int64) (mM : Int32) (mQ : Int64) (oV pL lI sW dP sT : Int32) (aT : Int64) (cH iW iH aE mN : Int32) (sZ : Int64) (tS tA tW lS : Int32) (fL : Nat → Int32) (v : Int32) (hv : 0 ≤ v.toInt ∧ v.toInt ≤ 4095) (hls : 0 ≤ lS.toInt ∧ lS.toInt ≤ 12) : kM (S := (Int32 × (Nat → Int32))) l yX8_write wsX8_write ({ frames := 0, cells := 0, slots := 0, locals := 0 }) D (kT cI cL cB cZ cT) [.ref m0, .int v] [(m0, .inr (8, [.ref mH, .int aM, .long aC, .int mM, .long mQ, .int oV, .int pL, .int lI, .int sW, .int dP, .int sT, .long aT, .int cH, .int iW, .ref mI, .ref mJ, .ref mS, .ref mD, .int iH, .int aE, .int mN, .long sZ, .ref mX, .int tS, .int tA, .int tW, .ref mA, .ref mB, .ref mW, .ref mL, .int lS])), (mL, .inl (cB, 16, .inl fL))] sz eV (fun r u => lS.toInt ≤ ((u.1)).toInt ∧ ((u.1)).toInt ≤ lS.toInt + 4) (fun u => [(m0, .inr (8, [.ref mH, .int aM, .long aC, .int mM, .long mQ, .int oV, .int pL, .int lI, .int sW, .int dP, .int sT, .long aT, .int cH, .int iW, .ref mI, .ref mJ, .ref mS, .ref mD, .int iH, .int aE, .int mN, .long sZ, .ref mX, .int tS, .int tA, .int tW, .ref mA, .ref mB, .ref mW, .ref mL, .int u.1])), (mL, .inl (cB, 16, .inl u.2))]) 0 0 := by
  refine kStart (cc := cX8_write) (maxL := 3) (ret := none) (own := RX8) (by decide) rfl rfl (Nat.le_of_ble_eq_true rfl) ?_
  intro p e s m args below meth c A ls hx hb hr hml hown hts hlocks hnm hsz hA hG hP hD hS hl
  have hK := hG.1
  have hl : lv_has ls 3 [(0, .ref m0), (1, .int v)] := hl
  obtain ⟨hq1, hq2, hq3, hq4⟩ := k_divL (n := v) (by omega)
  refine lv_iconst (v := 1) hx hb dX8_write_0 (by decide) ?_
  refine lv_istore_n (lv' := [(2, .int 1), (0, .ref m0), (1, .int v)]) hx hb dX8_write_1 rfl hl (by decide) rfl (fun ls hl => ?_)
  refine lv_iload_n hx hb dX8_write_2 rfl (lv_at hl 2 rfl) ?_
  refine lv_iload_n hx hb dX8_write_3 rfl (lv_at hl 0 rfl) ?_
  refine lv_idiv hx hb dX8_write_4 (by decide) ?_
  refine lv_bipush (v := 9) hx hb dX8_write_5 (by decide) ?_
  refine lv_icmp_le (tgt := 18) hx hb dX8_write_7 (by decide) (fun c_7_0 => ?_) (fun c_7_0 => ?_)
  · have t_7_0 := c_7_0
    try simp only [kb_eq0, kb_ne0, lg_cmp_lt, lg_cmp_le, lg_cmp_gt, lg_cmp_ge, lg_cmp_eq] at t_7_0
    try simp only [Int32.lt_iff_toInt_lt, Int32.le_iff_toInt_le, ← Int32.toInt_inj, Int64.lt_iff_toInt_lt, Int64.le_iff_toInt_le, ← Int64.toInt_inj, Int32.toInt_toInt64, Int32.reduceToInt, Int64.reduceToInt] at t_7_0
    refine lv_iload_n hx hb dX8_write_18 rfl (lv_at hl 0 rfl) ?_
    refine lv_if_le (tgt := 59) hx hb dX8_write_19 (by decide) (fun c_19_1 => ?_) (fun c_19_1 => ?_)
    · exact absurd c_19_1 (by decide)
    · have t_19_1 := c_19_1
      try simp only [kb_eq0, kb_ne0, lg_cmp_lt, lg_cmp_le, lg_cmp_gt, lg_cmp_ge, lg_cmp_eq] at t_19_1
      try simp only [Int32.lt_iff_toInt_lt, Int32.le_iff_toInt_le, ← Int32.toInt_inj, Int64.lt_iff_toInt_lt, Int64.le_iff_toInt_le, ← Int64.toInt_inj, Int32.toInt_toInt64, Int32.reduceToInt, Int64.reduceToInt] at t_19_1
      refine lv_aload_n hx hb dX8_write_22 rfl (lv_at hl 1 rfl) ?_
      refine va_get (D := D) (ci := 8) (v := .ref mL) (C := RX8) (T := TX8) (N := 31) hx hb hts iX8_write_X8 hown hK hP 0 rfl rfl 29 (by decide) (hts (.fieldLink RX8 40 "TapeCalculatorModel" "line" "[B") (List.mem_of_getElem? (i := 1) rfl)) (fun _ h9 => h9) rfl dX8_write_23 ?_
      refine lv_aload_n hx hb dX8_write_26 rfl (lv_at hl 1 rfl) ?_
      refine va_get (D := D) (ci := 8) (v := .int lS) (C := RX8) (T := TX8) (N := 31) hx hb hts iX8_write_X8 hown hK hP 0 rfl rfl 30 (by decide) (hts (.fieldLink RX8 285 "TapeCalculatorModel" "lineSize" "I") (List.mem_of_getElem? (i := 2) rfl)) (fun _ h9 => h9) rfl dX8_write_27 ?_
      refine lv_bipush (v := 48) hx hb dX8_write_30 (by decide) ?_
      refine lv_iload_n hx hb dX8_write_32 rfl (lv_at hl 2 rfl) ?_
      refine lv_iload_n hx hb dX8_write_33 rfl (lv_at hl 0 rfl) ?_
      refine lv_idiv hx hb dX8_write_34 (by decide) ?_
      refine lv_bipush (v := 10) hx hb dX8_write_35 (by decide) ?_
      refine lv_irem hx hb dX8_write_37 (by decide) ?_
      refine lv_iadd hx hb dX8_write_38 ?_
      refine lv_i2b hx hb dX8_write_39 rfl ?_
      refine va_bast hx hb hK hP hD hS 1 2 rfl rfl (vp_in_iff.mpr (by omega)) dX8_write_40 (fun H locs hP hD hS => ?_)
      have hP : va_P D vwCl [(m0, .inr (8, [.ref mH, .int aM, .long aC, .int mM, .long mQ, .int oV, .int pL, .int lI, .int sW, .int dP, .int sT, .long aT, .int cH, .int iW, .ref mI, .ref mJ, .ref mS, .ref mD, .int iH, .int aE, .int mN, .long sZ, .ref mX, .int tS, .int tA, .int tW, .ref mA, .ref mB, .ref mW, .ref mL, .int lS])), (mL, .inl (cB, 16, .inl (upd fL lS.toNatClampNeg (vp_nar .byte (48 + ((v / 1) - (v / 1) / 10 * 10)).toInt8.toInt32))))] H := hP
      have hD : va_D A [(m0, .inr (8, [.ref mH, .int aM, .long aC, .int mM, .long mQ, .int oV, .int pL, .int lI, .int sW, .int dP, .int sT, .long aT, .int cH, .int iW, .ref mI, .ref mJ, .ref mS, .ref mD, .int iH, .int aE, .int mN, .long sZ, .ref mX, .int tS, .int tA, .int tW, .ref mA, .ref mB, .ref mW, .ref mL, .int lS])), (mL, .inl (cB, 16, .inl (upd fL lS.toNatClampNeg (vp_nar .byte (48 + ((v / 1) - (v / 1) / 10 * 10)).toInt8.toInt32))))] := hD
      refine lv_aload_n hx hb dX8_write_41 rfl (lv_at hl 1 rfl) ?_
      refine lv_dup hx hb dX8_write_42 rfl ?_
      refine va_get (D := D) (ci := 8) (v := .int lS) (C := RX8) (T := TX8) (N := 31) hx hb hts iX8_write_X8 hown hK hP 0 rfl rfl 30 (by decide) (hts (.fieldLink RX8 285 "TapeCalculatorModel" "lineSize" "I") (List.mem_of_getElem? (i := 2) rfl)) (fun _ h9 => h9) rfl dX8_write_43 ?_
      refine lv_iconst (v := 1) hx hb dX8_write_46 (by decide) ?_
      refine lv_iadd hx hb dX8_write_47 ?_
      refine lv_topi (fun x_3 ex_3 => ?_)
      refine va_put (D := D) (ci := 8) (v := .int x_3) (ty := .int) (C := RX8) (T := TX8) (N := 31) hx hb hts iX8_write_X8 tyX8 tyX8_ok nmX8 hown hK hP hD hS 0 rfl rfl 30 (by decide) (hts (.fieldLink RX8 285 "TapeCalculatorModel" "lineSize" "I") (List.mem_of_getElem? (i := 2) rfl)) (fun _ h9 => h9) rfl (by decide +kernel) rfl rfl (Nat.le_of_ble_eq_true rfl) dX8_write_48 (fun H locs hP hD hS => ?_)
      have hP : va_P D vwCl [(m0, .inr (8, [.ref mH, .int aM, .long aC, .int mM, .long mQ, .int oV, .int pL, .int lI, .int sW, .int dP, .int sT, .long aT, .int cH, .int iW, .ref mI, .ref mJ, .ref mS, .ref mD, .int iH, .int aE, .int mN, .long sZ, .ref mX, .int tS, .int tA, .int tW, .ref mA, .ref mB, .ref mW, .ref mL, .int x_3])), (mL, .inl (cB, 16, .inl (upd fL lS.toNatClampNeg (vp_nar .byte (48 + ((v / 1) - (v / 1) / 10 * 10)).toInt8.toInt32))))] H := hP
      have hD : va_D A [(m0, .inr (8, [.ref mH, .int aM, .long aC, .int mM, .long mQ, .int oV, .int pL, .int lI, .int sW, .int dP, .int sT, .long aT, .int cH, .int iW, .ref mI, .ref mJ, .ref mS, .ref mD, .int iH, .int aE, .int mN, .long sZ, .ref mX, .int tS, .int tA, .int tW, .ref mA, .ref mB, .ref mW, .ref mL, .int x_3])), (mL, .inl (cB, 16, .inl (upd fL lS.toNatClampNeg (vp_nar .byte (48 + ((v / 1) - (v / 1) / 10 * 10)).toInt8.toInt32))))] := hD
      have hdx_3 := k_addg (a := lS) (b := 1) (by omega) (by decide)
      simp only [Int32.reduceToInt] at hdx_3
      rw [← ex_3] at hdx_3
      refine lv_iload_n hx hb dX8_write_51 rfl (lv_at hl 0 rfl) ?_
      refine lv_bipush (v := 10) hx hb dX8_write_52 (by decide) ?_
      refine lv_idiv hx hb dX8_write_54 (by decide) ?_
      refine lv_topi (fun x_4 ex_4 => ?_)
      obtain rfl : x_4 = 0 := ex_4.trans (by decide)
      refine lv_istore_n (lv' := [(2, .int 0), (0, .ref m0), (1, .int v)]) hx hb dX8_write_55 rfl hl (by decide) rfl (fun ls hl => ?_)
      refine lv_goto (tgt := 18) hx hb dX8_write_56 (by decide) ?_
      refine lv_iload_n hx hb dX8_write_18 rfl (lv_at hl 0 rfl) ?_
      refine lv_if_le (tgt := 59) hx hb dX8_write_19 (by decide) (fun c_19_4 => ?_) (fun c_19_4 => ?_)
      · have t_19_4 := c_19_4
        try simp only [kb_eq0, kb_ne0, lg_cmp_lt, lg_cmp_le, lg_cmp_gt, lg_cmp_ge, lg_cmp_eq] at t_19_4
        try simp only [Int32.lt_iff_toInt_lt, Int32.le_iff_toInt_le, ← Int32.toInt_inj, Int64.lt_iff_toInt_lt, Int64.le_iff_toInt_le, ← Int64.toInt_inj, Int32.toInt_toInt64, Int32.reduceToInt, Int64.reduceToInt] at t_19_4
        refine kVret (u := (x_3, (upd fL lS.toNatClampNeg (vp_nar .byte (48 + ((v / 1) - (v / 1) / 10 * 10)).toInt8.toInt32)))) hx hb hr hlocks hS dX8_write_59 ?_ (hP.sub [0, 1] rfl) (hD.sub [0, 1] (by decide) rfl)
        try dsimp only
        repeat' (with_reducible apply And.intro)
        all_goals first | with_reducible assumption | ((try simp only [jT_, jP_, jD_, jC_, jB_, jW_, Int32.reduceToInt, Int64.reduceToInt, true_or, or_true, true_and, and_true]) <;> omega)
      · exact absurd (by decide) c_19_4
  · have t_7_0 := c_7_0
    try simp only [kb_eq0, kb_ne0, lg_cmp_lt, lg_cmp_le, lg_cmp_gt, lg_cmp_ge, lg_cmp_eq] at t_7_0
    try simp only [Int32.lt_iff_toInt_lt, Int32.le_iff_toInt_le, ← Int32.toInt_inj, Int64.lt_iff_toInt_lt, Int64.le_iff_toInt_le, ← Int64.toInt_inj, Int32.toInt_toInt64, Int32.reduceToInt, Int64.reduceToInt] at t_7_0
    refine lv_iload_n hx hb dX8_write_10 rfl (lv_at hl 0 rfl) ?_
    refine lv_bipush (v := 10) hx hb dX8_write_11 (by decide) ?_
    refine lv_imul hx hb dX8_write_13 ?_
    refine lv_topi (fun x_6 ex_6 => ?_)
    obtain rfl : x_6 = 10 := ex_6.trans (by decide)
    refine lv_istore_n (lv' := [(2, .int 10), (0, .ref m0), (1, .int v)]) hx hb dX8_write_14 rfl hl (by decide) rfl (fun ls hl => ?_)
    refine lv_goto (tgt := 2) hx hb dX8_write_15 (by decide) ?_
    refine lv_iload_n hx hb dX8_write_2 rfl (lv_at hl 2 rfl) ?_
    refine lv_iload_n hx hb dX8_write_3 rfl (lv_at hl 0 rfl) ?_
    refine lv_idiv hx hb dX8_write_4 (by decide) ?_
    refine lv_bipush (v := 9) hx hb dX8_write_5 (by decide) ?_
    refine lv_icmp_le (tgt := 18) hx hb dX8_write_7 (by decide) (fun c_7_6 => ?_) (fun c_7_6 => ?_)
    · have t_7_6 := c_7_6
      try simp only [kb_eq0, kb_ne0, lg_cmp_lt, lg_cmp_le, lg_cmp_gt, lg_cmp_ge, lg_cmp_eq] at t_7_6
      try simp only [Int32.lt_iff_toInt_lt, Int32.le_iff_toInt_le, ← Int32.toInt_inj, Int64.lt_iff_toInt_lt, Int64.le_iff_toInt_le, ← Int64.toInt_inj, Int32.toInt_toInt64, Int32.reduceToInt, Int64.reduceToInt] at t_7_6
      refine lv_iload_n hx hb dX8_write_18 rfl (lv_at hl 0 rfl) ?_
      refine lv_if_le (tgt := 59) hx hb dX8_write_19 (by decide) (fun c_19_7 => ?_) (fun c_19_7 => ?_)
      · exact absurd c_19_7 (by decide)
      · have t_19_7 := c_19_7
        try simp only [kb_eq0, kb_ne0, lg_cmp_lt, lg_cmp_le, lg_cmp_gt, lg_cmp_ge, lg_cmp_eq] at t_19_7
        try simp only [Int32.lt_iff_toInt_lt, Int32.le_iff_toInt_le, ← Int32.toInt_inj, Int64.lt_iff_toInt_lt, Int64.le_iff_toInt_le, ← Int64.toInt_inj, Int32.toInt_toInt64, Int32.reduceToInt, Int64.reduceToInt] at t_19_7
        refine lv_aload_n hx hb dX8_write_22 rfl (lv_at hl 1 rfl) ?_
        refine va_get (D := D) (ci := 8) (v := .ref mL) (C := RX8) (T := TX8) (N := 31) hx hb hts iX8_write_X8 hown hK hP 0 rfl rfl 29 (by decide) (hts (.fieldLink RX8 40 "TapeCalculatorModel" "line" "[B") (List.mem_of_getElem? (i := 1) rfl)) (fun _ h9 => h9) rfl dX8_write_23 ?_
        refine lv_aload_n hx hb dX8_write_26 rfl (lv_at hl 1 rfl) ?_
        refine va_get (D := D) (ci := 8) (v := .int lS) (C := RX8) (T := TX8) (N := 31) hx hb hts iX8_write_X8 hown hK hP 0 rfl rfl 30 (by decide) (hts (.fieldLink RX8 285 "TapeCalculatorModel" "lineSize" "I") (List.mem_of_getElem? (i := 2) rfl)) (fun _ h9 => h9) rfl dX8_write_27 ?_
        refine lv_bipush (v := 48) hx hb dX8_write_30 (by decide) ?_
        refine lv_iload_n hx hb dX8_write_32 rfl (lv_at hl 2 rfl) ?_
        refine lv_iload_n hx hb dX8_write_33 rfl (lv_at hl 0 rfl) ?_
        refine lv_idiv hx hb dX8_write_34 (by decide) ?_
        refine lv_bipush (v := 10) hx hb dX8_write_35 (by decide) ?_
        refine lv_irem hx hb dX8_write_37 (by decide) ?_
        refine lv_iadd hx hb dX8_write_38 ?_
        refine lv_i2b hx hb dX8_write_39 rfl ?_
        refine va_bast hx hb hK hP hD hS 1 2 rfl rfl (vp_in_iff.mpr (by omega)) dX8_write_40 (fun H locs hP hD hS => ?_)
        have hP : va_P D vwCl [(m0, .inr (8, [.ref mH, .int aM, .long aC, .int mM, .long mQ, .int oV, .int pL, .int lI, .int sW, .int dP, .int sT, .long aT, .int cH, .int iW, .ref mI, .ref mJ, .ref mS, .ref mD, .int iH, .int aE, .int mN, .long sZ, .ref mX, .int tS, .int tA, .int tW, .ref mA, .ref mB, .ref mW, .ref mL, .int lS])), (mL, .inl (cB, 16, .inl (upd fL lS.toNatClampNeg (vp_nar .byte (48 + ((v / 10) - (v / 10) / 10 * 10)).toInt8.toInt32))))] H := hP
        have hD : va_D A [(m0, .inr (8, [.ref mH, .int aM, .long aC, .int mM, .long mQ, .int oV, .int pL, .int lI, .int sW, .int dP, .int sT, .long aT, .int cH, .int iW, .ref mI, .ref mJ, .ref mS, .ref mD, .int iH, .int aE, .int mN, .long sZ, .ref mX, .int tS, .int tA, .int tW, .ref mA, .ref mB, .ref mW, .ref mL, .int lS])), (mL, .inl (cB, 16, .inl (upd fL lS.toNatClampNeg (vp_nar .byte (48 + ((v / 10) - (v / 10) / 10 * 10)).toInt8.toInt32))))] := hD
        refine lv_aload_n hx hb dX8_write_41 rfl (lv_at hl 1 rfl) ?_
        refine lv_dup hx hb dX8_write_42 rfl ?_
        refine va_get (D := D) (ci := 8) (v := .int lS) (C := RX8) (T := TX8) (N := 31) hx hb hts iX8_write_X8 hown hK hP 0 rfl rfl 30 (by decide) (hts (.fieldLink RX8 285 "TapeCalculatorModel" "lineSize" "I") (List.mem_of_getElem? (i := 2) rfl)) (fun _ h9 => h9) rfl dX8_write_43 ?_
        refine lv_iconst (v := 1) hx hb dX8_write_46 (by decide) ?_
        refine lv_iadd hx hb dX8_write_47 ?_
        refine lv_topi (fun x_9 ex_9 => ?_)
        refine va_put (D := D) (ci := 8) (v := .int x_9) (ty := .int) (C := RX8) (T := TX8) (N := 31) hx hb hts iX8_write_X8 tyX8 tyX8_ok nmX8 hown hK hP hD hS 0 rfl rfl 30 (by decide) (hts (.fieldLink RX8 285 "TapeCalculatorModel" "lineSize" "I") (List.mem_of_getElem? (i := 2) rfl)) (fun _ h9 => h9) rfl (by decide +kernel) rfl rfl (Nat.le_of_ble_eq_true rfl) dX8_write_48 (fun H locs hP hD hS => ?_)
        have hP : va_P D vwCl [(m0, .inr (8, [.ref mH, .int aM, .long aC, .int mM, .long mQ, .int oV, .int pL, .int lI, .int sW, .int dP, .int sT, .long aT, .int cH, .int iW, .ref mI, .ref mJ, .ref mS, .ref mD, .int iH, .int aE, .int mN, .long sZ, .ref mX, .int tS, .int tA, .int tW, .ref mA, .ref mB, .ref mW, .ref mL, .int x_9])), (mL, .inl (cB, 16, .inl (upd fL lS.toNatClampNeg (vp_nar .byte (48 + ((v / 10) - (v / 10) / 10 * 10)).toInt8.toInt32))))] H := hP
        have hD : va_D A [(m0, .inr (8, [.ref mH, .int aM, .long aC, .int mM, .long mQ, .int oV, .int pL, .int lI, .int sW, .int dP, .int sT, .long aT, .int cH, .int iW, .ref mI, .ref mJ, .ref mS, .ref mD, .int iH, .int aE, .int mN, .long sZ, .ref mX, .int tS, .int tA, .int tW, .ref mA, .ref mB, .ref mW, .ref mL, .int x_9])), (mL, .inl (cB, 16, .inl (upd fL lS.toNatClampNeg (vp_nar .byte (48 + ((v / 10) - (v / 10) / 10 * 10)).toInt8.toInt32))))] := hD
        have hdx_9 := k_addg (a := lS) (b := 1) (by omega) (by decide)
        simp only [Int32.reduceToInt] at hdx_9
        rw [← ex_9] at hdx_9
        refine lv_iload_n hx hb dX8_write_51 rfl (lv_at hl 0 rfl) ?_
        refine lv_bipush (v := 10) hx hb dX8_write_52 (by decide) ?_
        refine lv_idiv hx hb dX8_write_54 (by decide) ?_
        refine lv_topi (fun x_10 ex_10 => ?_)
        obtain rfl : x_10 = 1 := ex_10.trans (by decide)
        refine lv_istore_n (lv' := [(2, .int 1), (0, .ref m0), (1, .int v)]) hx hb dX8_write_55 rfl hl (by decide) rfl (fun ls hl => ?_)
        refine lv_goto (tgt := 18) hx hb dX8_write_56 (by decide) ?_
        refine lv_iload_n hx hb dX8_write_18 rfl (lv_at hl 0 rfl) ?_
        refine lv_if_le (tgt := 59) hx hb dX8_write_19 (by decide) (fun c_19_10 => ?_) (fun c_19_10 => ?_)
        · exact absurd c_19_10 (by decide)
        · have t_19_10 := c_19_10
          try simp only [kb_eq0, kb_ne0, lg_cmp_lt, lg_cmp_le, lg_cmp_gt, lg_cmp_ge, lg_cmp_eq] at t_19_10
          try simp only [Int32.lt_iff_toInt_lt, Int32.le_iff_toInt_le, ← Int32.toInt_inj, Int64.lt_iff_toInt_lt, Int64.le_iff_toInt_le, ← Int64.toInt_inj, Int32.toInt_toInt64, Int32.reduceToInt, Int64.reduceToInt] at t_19_10
          refine lv_aload_n hx hb dX8_write_22 rfl (lv_at hl 1 rfl) ?_
          refine va_get (D := D) (ci := 8) (v := .ref mL) (C := RX8) (T := TX8) (N := 31) hx hb hts iX8_write_X8 hown hK hP 0 rfl rfl 29 (by decide) (hts (.fieldLink RX8 40 "TapeCalculatorModel" "line" "[B") (List.mem_of_getElem? (i := 1) rfl)) (fun _ h9 => h9) rfl dX8_write_23 ?_
          refine lv_aload_n hx hb dX8_write_26 rfl (lv_at hl 1 rfl) ?_
          refine va_get (D := D) (ci := 8) (v := .int x_9) (C := RX8) (T := TX8) (N := 31) hx hb hts iX8_write_X8 hown hK hP 0 rfl rfl 30 (by decide) (hts (.fieldLink RX8 285 "TapeCalculatorModel" "lineSize" "I") (List.mem_of_getElem? (i := 2) rfl)) (fun _ h9 => h9) rfl dX8_write_27 ?_
          refine lv_bipush (v := 48) hx hb dX8_write_30 (by decide) ?_
          refine lv_iload_n hx hb dX8_write_32 rfl (lv_at hl 2 rfl) ?_
          refine lv_iload_n hx hb dX8_write_33 rfl (lv_at hl 0 rfl) ?_
          refine lv_idiv hx hb dX8_write_34 (by decide) ?_
          refine lv_bipush (v := 10) hx hb dX8_write_35 (by decide) ?_
          refine lv_irem hx hb dX8_write_37 (by decide) ?_
          refine lv_iadd hx hb dX8_write_38 ?_
          refine lv_i2b hx hb dX8_write_39 rfl ?_
          refine va_bast hx hb hK hP hD hS 1 2 rfl rfl (vp_in_iff.mpr (by omega)) dX8_write_40 (fun H locs hP hD hS => ?_)
          have hP : va_P D vwCl [(m0, .inr (8, [.ref mH, .int aM, .long aC, .int mM, .long mQ, .int oV, .int pL, .int lI, .int sW, .int dP, .int sT, .long aT, .int cH, .int iW, .ref mI, .ref mJ, .ref mS, .ref mD, .int iH, .int aE, .int mN, .long sZ, .ref mX, .int tS, .int tA, .int tW, .ref mA, .ref mB, .ref mW, .ref mL, .int x_9])), (mL, .inl (cB, 16, .inl (upd (upd fL lS.toNatClampNeg (vp_nar .byte (48 + ((v / 10) - (v / 10) / 10 * 10)).toInt8.toInt32)) x_9.toNatClampNeg (vp_nar .byte (48 + ((v / 1) - (v / 1) / 10 * 10)).toInt8.toInt32))))] H := hP
          have hD : va_D A [(m0, .inr (8, [.ref mH, .int aM, .long aC, .int mM, .long mQ, .int oV, .int pL, .int lI, .int sW, .int dP, .int sT, .long aT, .int cH, .int iW, .ref mI, .ref mJ, .ref mS, .ref mD, .int iH, .int aE, .int mN, .long sZ, .ref mX, .int tS, .int tA, .int tW, .ref mA, .ref mB, .ref mW, .ref mL, .int x_9])), (mL, .inl (cB, 16, .inl (upd (upd fL lS.toNatClampNeg (vp_nar .byte (48 + ((v / 10) - (v / 10) / 10 * 10)).toInt8.toInt32)) x_9.toNatClampNeg (vp_nar .byte (48 + ((v / 1) - (v / 1) / 10 * 10)).toInt8.toInt32))))] := hD
          refine lv_aload_n hx hb dX8_write_41 rfl (lv_at hl 1 rfl) ?_
          refine lv_dup hx hb dX8_write_42 rfl ?_
          refine va_get (D := D) (ci := 8) (v := .int x_9) (C := RX8) (T := TX8) (N := 31) hx hb hts iX8_write_X8 hown hK hP 0 rfl rfl 30 (by decide) (hts (.fieldLink RX8 285 "TapeCalculatorModel" "lineSize" "I") (List.mem_of_getElem? (i := 2) rfl)) (fun _ h9 => h9) rfl dX8_write_43 ?_
          refine lv_iconst (v := 1) hx hb dX8_write_46 (by decide) ?_
          refine lv_iadd hx hb dX8_write_47 ?_
          refine lv_topi (fun x_12 ex_12 => ?_)
          refine va_put (D := D) (ci := 8) (v := .int x_12) (ty := .int) (C := RX8) (T := TX8) (N := 31) hx hb hts iX8_write_X8 tyX8 tyX8_ok nmX8 hown hK hP hD hS 0 rfl rfl 30 (by decide) (hts (.fieldLink RX8 285 "TapeCalculatorModel" "lineSize" "I") (List.mem_of_getElem? (i := 2) rfl)) (fun _ h9 => h9) rfl (by decide +kernel) rfl rfl (Nat.le_of_ble_eq_true rfl) dX8_write_48 (fun H locs hP hD hS => ?_)
          have hP : va_P D vwCl [(m0, .inr (8, [.ref mH, .int aM, .long aC, .int mM, .long mQ, .int oV, .int pL, .int lI, .int sW, .int dP, .int sT, .long aT, .int cH, .int iW, .ref mI, .ref mJ, .ref mS, .ref mD, .int iH, .int aE, .int mN, .long sZ, .ref mX, .int tS, .int tA, .int tW, .ref mA, .ref mB, .ref mW, .ref mL, .int x_12])), (mL, .inl (cB, 16, .inl (upd (upd fL lS.toNatClampNeg (vp_nar .byte (48 + ((v / 10) - (v / 10) / 10 * 10)).toInt8.toInt32)) x_9.toNatClampNeg (vp_nar .byte (48 + ((v / 1) - (v / 1) / 10 * 10)).toInt8.toInt32))))] H := hP
          have hD : va_D A [(m0, .inr (8, [.ref mH, .int aM, .long aC, .int mM, .long mQ, .int oV, .int pL, .int lI, .int sW, .int dP, .int sT, .long aT, .int cH, .int iW, .ref mI, .ref mJ, .ref mS, .ref mD, .int iH, .int aE, .int mN, .long sZ, .ref mX, .int tS, .int tA, .int tW, .ref mA, .ref mB, .ref mW, .ref mL, .int x_12])), (mL, .inl (cB, 16, .inl (upd (upd fL lS.toNatClampNeg (vp_nar .byte (48 + ((v / 10) - (v / 10) / 10 * 10)).toInt8.toInt32)) x_9.toNatClampNeg (vp_nar .byte (48 + ((v / 1) - (v / 1) / 10 * 10)).toInt8.toInt32))))] := hD
          have hdx_12 := k_addg (a := x_9) (b := 1) (by omega) (by decide)
          simp only [Int32.reduceToInt] at hdx_12
          rw [← ex_12] at hdx_12
          refine lv_iload_n hx hb dX8_write_51 rfl (lv_at hl 0 rfl) ?_
          refine lv_bipush (v := 10) hx hb dX8_write_52 (by decide) ?_
          refine lv_idiv hx hb dX8_write_54 (by decide) ?_
          refine lv_topi (fun x_13 ex_13 => ?_)
          obtain rfl : x_13 = 0 := ex_13.trans (by decide)
          refine lv_istore_n (lv' := [(2, .int 0), (0, .ref m0), (1, .int v)]) hx hb dX8_write_55 rfl hl (by decide) rfl (fun ls hl => ?_)
          refine lv_goto (tgt := 18) hx hb dX8_write_56 (by decide) ?_
          refine lv_iload_n hx hb dX8_write_18 rfl (lv_at hl 0 rfl) ?_
          refine lv_if_le (tgt := 59) hx hb dX8_write_19 (by decide) (fun c_19_13 => ?_) (fun c_19_13 => ?_)
          · have t_19_13 := c_19_13
            try simp only [kb_eq0, kb_ne0, lg_cmp_lt, lg_cmp_le, lg_cmp_gt, lg_cmp_ge, lg_cmp_eq] at t_19_13
            try simp only [Int32.lt_iff_toInt_lt, Int32.le_iff_toInt_le, ← Int32.toInt_inj, Int64.lt_iff_toInt_lt, Int64.le_iff_toInt_le, ← Int64.toInt_inj, Int32.toInt_toInt64, Int32.reduceToInt, Int64.reduceToInt] at t_19_13
            refine kVret (u := (x_12, (upd (upd fL lS.toNatClampNeg (vp_nar .byte (48 + ((v / 10) - (v / 10) / 10 * 10)).toInt8.toInt32)) x_9.toNatClampNeg (vp_nar .byte (48 + ((v / 1) - (v / 1) / 10 * 10)).toInt8.toInt32)))) hx hb hr hlocks hS dX8_write_59 ?_ (hP.sub [0, 1] rfl) (hD.sub [0, 1] (by decide) rfl)
            try dsimp only
            repeat' (with_reducible apply And.intro)
            all_goals first | with_reducible assumption | ((try simp only [jT_, jP_, jD_, jC_, jB_, jW_, Int32.reduceToInt, Int64.reduceToInt, true_or, or_true, true_and, and_true]) <;> omega)
          · exact absurd (by decide) c_19_13
    · have t_7_6 := c_7_6
      try simp only [kb_eq0, kb_ne0, lg_cmp_lt, lg_cmp_le, lg_cmp_gt, lg_cmp_ge, lg_cmp_eq] at t_7_6
      try simp only [Int32.lt_iff_toInt_lt, Int32.le_iff_toInt_le, ← Int32.toInt_inj, Int64.lt_iff_toInt_lt, Int64.le_iff_toInt_le, ← Int64.toInt_inj, Int32.toInt_toInt64, Int32.reduceToInt, Int64.reduceToInt] at t_7_6
      refine lv_iload_n hx hb dX8_write_10 rfl (lv_at hl 0 rfl) ?_
      refine lv_bipush (v := 10) hx hb dX8_write_11 (by decide) ?_
      refine lv_imul hx hb dX8_write_13 ?_
      refine lv_topi (fun x_15 ex_15 => ?_)
      obtain rfl : x_15 = 100 := ex_15.trans (by decide)
      refine lv_istore_n (lv' := [(2, .int 100), (0, .ref m0), (1, .int v)]) hx hb dX8_write_14 rfl hl (by decide) rfl (fun ls hl => ?_)
      refine lv_goto (tgt := 2) hx hb dX8_write_15 (by decide) ?_
      refine lv_iload_n hx hb dX8_write_2 rfl (lv_at hl 2 rfl) ?_
      refine lv_iload_n hx hb dX8_write_3 rfl (lv_at hl 0 rfl) ?_
      refine lv_idiv hx hb dX8_write_4 (by decide) ?_
      refine lv_bipush (v := 9) hx hb dX8_write_5 (by decide) ?_
      refine lv_icmp_le (tgt := 18) hx hb dX8_write_7 (by decide) (fun c_7_15 => ?_) (fun c_7_15 => ?_)
      · have t_7_15 := c_7_15
        try simp only [kb_eq0, kb_ne0, lg_cmp_lt, lg_cmp_le, lg_cmp_gt, lg_cmp_ge, lg_cmp_eq] at t_7_15
        try simp only [Int32.lt_iff_toInt_lt, Int32.le_iff_toInt_le, ← Int32.toInt_inj, Int64.lt_iff_toInt_lt, Int64.le_iff_toInt_le, ← Int64.toInt_inj, Int32.toInt_toInt64, Int32.reduceToInt, Int64.reduceToInt] at t_7_15
        refine lv_iload_n hx hb dX8_write_18 rfl (lv_at hl 0 rfl) ?_
        refine lv_if_le (tgt := 59) hx hb dX8_write_19 (by decide) (fun c_19_16 => ?_) (fun c_19_16 => ?_)
        · exact absurd c_19_16 (by decide)
        · have t_19_16 := c_19_16
          try simp only [kb_eq0, kb_ne0, lg_cmp_lt, lg_cmp_le, lg_cmp_gt, lg_cmp_ge, lg_cmp_eq] at t_19_16
          try simp only [Int32.lt_iff_toInt_lt, Int32.le_iff_toInt_le, ← Int32.toInt_inj, Int64.lt_iff_toInt_lt, Int64.le_iff_toInt_le, ← Int64.toInt_inj, Int32.toInt_toInt64, Int32.reduceToInt, Int64.reduceToInt] at t_19_16
          refine lv_aload_n hx hb dX8_write_22 rfl (lv_at hl 1 rfl) ?_
          refine va_get (D := D) (ci := 8) (v := .ref mL) (C := RX8) (T := TX8) (N := 31) hx hb hts iX8_write_X8 hown hK hP 0 rfl rfl 29 (by decide) (hts (.fieldLink RX8 40 "TapeCalculatorModel" "line" "[B") (List.mem_of_getElem? (i := 1) rfl)) (fun _ h9 => h9) rfl dX8_write_23 ?_
          refine lv_aload_n hx hb dX8_write_26 rfl (lv_at hl 1 rfl) ?_
          refine va_get (D := D) (ci := 8) (v := .int lS) (C := RX8) (T := TX8) (N := 31) hx hb hts iX8_write_X8 hown hK hP 0 rfl rfl 30 (by decide) (hts (.fieldLink RX8 285 "TapeCalculatorModel" "lineSize" "I") (List.mem_of_getElem? (i := 2) rfl)) (fun _ h9 => h9) rfl dX8_write_27 ?_
          refine lv_bipush (v := 48) hx hb dX8_write_30 (by decide) ?_
          refine lv_iload_n hx hb dX8_write_32 rfl (lv_at hl 2 rfl) ?_
          refine lv_iload_n hx hb dX8_write_33 rfl (lv_at hl 0 rfl) ?_
          refine lv_idiv hx hb dX8_write_34 (by decide) ?_
          refine lv_bipush (v := 10) hx hb dX8_write_35 (by decide) ?_
          refine lv_irem hx hb dX8_write_37 (by decide) ?_
          refine lv_iadd hx hb dX8_write_38 ?_
          refine lv_i2b hx hb dX8_write_39 rfl ?_
          refine va_bast hx hb hK hP hD hS 1 2 rfl rfl (vp_in_iff.mpr (by omega)) dX8_write_40 (fun H locs hP hD hS => ?_)
          have hP : va_P D vwCl [(m0, .inr (8, [.ref mH, .int aM, .long aC, .int mM, .long mQ, .int oV, .int pL, .int lI, .int sW, .int dP, .int sT, .long aT, .int cH, .int iW, .ref mI, .ref mJ, .ref mS, .ref mD, .int iH, .int aE, .int mN, .long sZ, .ref mX, .int tS, .int tA, .int tW, .ref mA, .ref mB, .ref mW, .ref mL, .int lS])), (mL, .inl (cB, 16, .inl (upd fL lS.toNatClampNeg (vp_nar .byte (48 + ((v / 100) - (v / 100) / 10 * 10)).toInt8.toInt32))))] H := hP
          have hD : va_D A [(m0, .inr (8, [.ref mH, .int aM, .long aC, .int mM, .long mQ, .int oV, .int pL, .int lI, .int sW, .int dP, .int sT, .long aT, .int cH, .int iW, .ref mI, .ref mJ, .ref mS, .ref mD, .int iH, .int aE, .int mN, .long sZ, .ref mX, .int tS, .int tA, .int tW, .ref mA, .ref mB, .ref mW, .ref mL, .int lS])), (mL, .inl (cB, 16, .inl (upd fL lS.toNatClampNeg (vp_nar .byte (48 + ((v / 100) - (v / 100) / 10 * 10)).toInt8.toInt32))))] := hD
          refine lv_aload_n hx hb dX8_write_41 rfl (lv_at hl 1 rfl) ?_
          refine lv_dup hx hb dX8_write_42 rfl ?_
          refine va_get (D := D) (ci := 8) (v := .int lS) (C := RX8) (T := TX8) (N := 31) hx hb hts iX8_write_X8 hown hK hP 0 rfl rfl 30 (by decide) (hts (.fieldLink RX8 285 "TapeCalculatorModel" "lineSize" "I") (List.mem_of_getElem? (i := 2) rfl)) (fun _ h9 => h9) rfl dX8_write_43 ?_
          refine lv_iconst (v := 1) hx hb dX8_write_46 (by decide) ?_
          refine lv_iadd hx hb dX8_write_47 ?_
          refine lv_topi (fun x_18 ex_18 => ?_)
          refine va_put (D := D) (ci := 8) (v := .int x_18) (ty := .int) (C := RX8) (T := TX8) (N := 31) hx hb hts iX8_write_X8 tyX8 tyX8_ok nmX8 hown hK hP hD hS 0 rfl rfl 30 (by decide) (hts (.fieldLink RX8 285 "TapeCalculatorModel" "lineSize" "I") (List.mem_of_getElem? (i := 2) rfl)) (fun _ h9 => h9) rfl (by decide +kernel) rfl rfl (Nat.le_of_ble_eq_true rfl) dX8_write_48 (fun H locs hP hD hS => ?_)
          have hP : va_P D vwCl [(m0, .inr (8, [.ref mH, .int aM, .long aC, .int mM, .long mQ, .int oV, .int pL, .int lI, .int sW, .int dP, .int sT, .long aT, .int cH, .int iW, .ref mI, .ref mJ, .ref mS, .ref mD, .int iH, .int aE, .int mN, .long sZ, .ref mX, .int tS, .int tA, .int tW, .ref mA, .ref mB, .ref mW, .ref mL, .int x_18])), (mL, .inl (cB, 16, .inl (upd fL lS.toNatClampNeg (vp_nar .byte (48 + ((v / 100) - (v / 100) / 10 * 10)).toInt8.toInt32))))] H := hP
          have hD : va_D A [(m0, .inr (8, [.ref mH, .int aM, .long aC, .int mM, .long mQ, .int oV, .int pL, .int lI, .int sW, .int dP, .int sT, .long aT, .int cH, .int iW, .ref mI, .ref mJ, .ref mS, .ref mD, .int iH, .int aE, .int mN, .long sZ, .ref mX, .int tS, .int tA, .int tW, .ref mA, .ref mB, .ref mW, .ref mL, .int x_18])), (mL, .inl (cB, 16, .inl (upd fL lS.toNatClampNeg (vp_nar .byte (48 + ((v / 100) - (v / 100) / 10 * 10)).toInt8.toInt32))))] := hD
          have hdx_18 := k_addg (a := lS) (b := 1) (by omega) (by decide)
          simp only [Int32.reduceToInt] at hdx_18
          rw [← ex_18] at hdx_18
          refine lv_iload_n hx hb dX8_write_51 rfl (lv_at hl 0 rfl) ?_
          refine lv_bipush (v := 10) hx hb dX8_write_52 (by decide) ?_
          refine lv_idiv hx hb dX8_write_54 (by decide) ?_
          refine lv_topi (fun x_19 ex_19 => ?_)
          obtain rfl : x_19 = 10 := ex_19.trans (by decide)
          refine lv_istore_n (lv' := [(2, .int 10), (0, .ref m0), (1, .int v)]) hx hb dX8_write_55 rfl hl (by decide) rfl (fun ls hl => ?_)
          refine lv_goto (tgt := 18) hx hb dX8_write_56 (by decide) ?_
          refine lv_iload_n hx hb dX8_write_18 rfl (lv_at hl 0 rfl) ?_
          refine lv_if_le (tgt := 59) hx hb dX8_write_19 (by decide) (fun c_19_19 => ?_) (fun c_19_19 => ?_)
          · exact absurd c_19_19 (by decide)
          · have t_19_19 := c_19_19
            try simp only [kb_eq0, kb_ne0, lg_cmp_lt, lg_cmp_le, lg_cmp_gt, lg_cmp_ge, lg_cmp_eq] at t_19_19
            try simp only [Int32.lt_iff_toInt_lt, Int32.le_iff_toInt_le, ← Int32.toInt_inj, Int64.lt_iff_toInt_lt, Int64.le_iff_toInt_le, ← Int64.toInt_inj, Int32.toInt_toInt64, Int32.reduceToInt, Int64.reduceToInt] at t_19_19
            refine lv_aload_n hx hb dX8_write_22 rfl (lv_at hl 1 rfl) ?_
            refine va_get (D := D) (ci := 8) (v := .ref mL) (C := RX8) (T := TX8) (N := 31) hx hb hts iX8_write_X8 hown hK hP 0 rfl rfl 29 (by decide) (hts (.fieldLink RX8 40 "TapeCalculatorModel" "line" "[B") (List.mem_of_getElem? (i := 1) rfl)) (fun _ h9 => h9) rfl dX8_write_23 ?_
            refine lv_aload_n hx hb dX8_write_26 rfl (lv_at hl 1 rfl) ?_
            refine va_get (D := D) (ci := 8) (v := .int x_18) (C := RX8) (T := TX8) (N := 31) hx hb hts iX8_write_X8 hown hK hP 0 rfl rfl 30 (by decide) (hts (.fieldLink RX8 285 "TapeCalculatorModel" "lineSize" "I") (List.mem_of_getElem? (i := 2) rfl)) (fun _ h9 => h9) rfl dX8_write_27 ?_
            refine lv_bipush (v := 48) hx hb dX8_write_30 (by decide) ?_
            refine lv_iload_n hx hb dX8_write_32 rfl (lv_at hl 2 rfl) ?_
            refine lv_iload_n hx hb dX8_write_33 rfl (lv_at hl 0 rfl) ?_
            refine lv_idiv hx hb dX8_write_34 (by decide) ?_
            refine lv_bipush (v := 10) hx hb dX8_write_35 (by decide) ?_
            refine lv_irem hx hb dX8_write_37 (by decide) ?_
            refine lv_iadd hx hb dX8_write_38 ?_
            refine lv_i2b hx hb dX8_write_39 rfl ?_
            refine va_bast hx hb hK hP hD hS 1 2 rfl rfl (vp_in_iff.mpr (by omega)) dX8_write_40 (fun H locs hP hD hS => ?_)
            have hP : va_P D vwCl [(m0, .inr (8, [.ref mH, .int aM, .long aC, .int mM, .long mQ, .int oV, .int pL, .int lI, .int sW, .int dP, .int sT, .long aT, .int cH, .int iW, .ref mI, .ref mJ, .ref mS, .ref mD, .int iH, .int aE, .int mN, .long sZ, .ref mX, .int tS, .int tA, .int tW, .ref mA, .ref mB, .ref mW, .ref mL, .int x_18])), (mL, .inl (cB, 16, .inl (upd (upd fL lS.toNatClampNeg (vp_nar .byte (48 + ((v / 100) - (v / 100) / 10 * 10)).toInt8.toInt32)) x_18.toNatClampNeg (vp_nar .byte (48 + ((v / 10) - (v / 10) / 10 * 10)).toInt8.toInt32))))] H := hP
            have hD : va_D A [(m0, .inr (8, [.ref mH, .int aM, .long aC, .int mM, .long mQ, .int oV, .int pL, .int lI, .int sW, .int dP, .int sT, .long aT, .int cH, .int iW, .ref mI, .ref mJ, .ref mS, .ref mD, .int iH, .int aE, .int mN, .long sZ, .ref mX, .int tS, .int tA, .int tW, .ref mA, .ref mB, .ref mW, .ref mL, .int x_18])), (mL, .inl (cB, 16, .inl (upd (upd fL lS.toNatClampNeg (vp_nar .byte (48 + ((v / 100) - (v / 100) / 10 * 10)).toInt8.toInt32)) x_18.toNatClampNeg (vp_nar .byte (48 + ((v / 10) - (v / 10) / 10 * 10)).toInt8.toInt32))))] := hD
            refine lv_aload_n hx hb dX8_write_41 rfl (lv_at hl 1 rfl) ?_
            refine lv_dup hx hb dX8_write_42 rfl ?_
            refine va_get (D := D) (ci := 8) (v := .int x_18) (C := RX8) (T := TX8) (N := 31) hx hb hts iX8_write_X8 hown hK hP 0 rfl rfl 30 (by decide) (hts (.fieldLink RX8 285 "TapeCalculatorModel" "lineSize" "I") (List.mem_of_getElem? (i := 2) rfl)) (fun _ h9 => h9) rfl dX8_write_43 ?_
            refine lv_iconst (v := 1) hx hb dX8_write_46 (by decide) ?_
            refine lv_iadd hx hb dX8_write_47 ?_
            refine lv_topi (fun x_21 ex_21 => ?_)
            refine va_put (D := D) (ci := 8) (v := .int x_21) (ty := .int) (C := RX8) (T := TX8) (N := 31) hx hb hts iX8_write_X8 tyX8 tyX8_ok nmX8 hown hK hP hD hS 0 rfl rfl 30 (by decide) (hts (.fieldLink RX8 285 "TapeCalculatorModel" "lineSize" "I") (List.mem_of_getElem? (i := 2) rfl)) (fun _ h9 => h9) rfl (by decide +kernel) rfl rfl (Nat.le_of_ble_eq_true rfl) dX8_write_48 (fun H locs hP hD hS => ?_)
            have hP : va_P D vwCl [(m0, .inr (8, [.ref mH, .int aM, .long aC, .int mM, .long mQ, .int oV, .int pL, .int lI, .int sW, .int dP, .int sT, .long aT, .int cH, .int iW, .ref mI, .ref mJ, .ref mS, .ref mD, .int iH, .int aE, .int mN, .long sZ, .ref mX, .int tS, .int tA, .int tW, .ref mA, .ref mB, .ref mW, .ref mL, .int x_21])), (mL, .inl (cB, 16, .inl (upd (upd fL lS.toNatClampNeg (vp_nar .byte (48 + ((v / 100) - (v / 100) / 10 * 10)).toInt8.toInt32)) x_18.toNatClampNeg (vp_nar .byte (48 + ((v / 10) - (v / 10) / 10 * 10)).toInt8.toInt32))))] H := hP
            have hD : va_D A [(m0, .inr (8, [.ref mH, .int aM, .long aC, .int mM, .long mQ, .int oV, .int pL, .int lI, .int sW, .int dP, .int sT, .long aT, .int cH, .int iW, .ref mI, .ref mJ, .ref mS, .ref mD, .int iH, .int aE, .int mN, .long sZ, .ref mX, .int tS, .int tA, .int tW, .ref mA, .ref mB, .ref mW, .ref mL, .int x_21])), (mL, .inl (cB, 16, .inl (upd (upd fL lS.toNatClampNeg (vp_nar .byte (48 + ((v / 100) - (v / 100) / 10 * 10)).toInt8.toInt32)) x_18.toNatClampNeg (vp_nar .byte (48 + ((v / 10) - (v / 10) / 10 * 10)).toInt8.toInt32))))] := hD
            have hdx_21 := k_addg (a := x_18) (b := 1) (by omega) (by decide)
            simp only [Int32.reduceToInt] at hdx_21
            rw [← ex_21] at hdx_21
            refine lv_iload_n hx hb dX8_write_51 rfl (lv_at hl 0 rfl) ?_
            refine lv_bipush (v := 10) hx hb dX8_write_52 (by decide) ?_
            refine lv_idiv hx hb dX8_write_54 (by decide) ?_
            refine lv_topi (fun x_22 ex_22 => ?_)
            obtain rfl : x_22 = 1 := ex_22.trans (by decide)
            refine lv_istore_n (lv' := [(2, .int 1), (0, .ref m0), (1, .int v)]) hx hb dX8_write_55 rfl hl (by decide) rfl (fun ls hl => ?_)
            refine lv_goto (tgt := 18) hx hb dX8_write_56 (by decide) ?_
            refine lv_iload_n hx hb dX8_write_18 rfl (lv_at hl 0 rfl) ?_
            refine lv_if_le (tgt := 59) hx hb dX8_write_19 (by decide) (fun c_19_22 => ?_) (fun c_19_22 => ?_)
            · exact absurd c_19_22 (by decide)
            · have t_19_22 := c_19_22
              try simp only [kb_eq0, kb_ne0, lg_cmp_lt, lg_cmp_le, lg_cmp_gt, lg_cmp_ge, lg_cmp_eq] at t_19_22
              try simp only [Int32.lt_iff_toInt_lt, Int32.le_iff_toInt_le, ← Int32.toInt_inj, Int64.lt_iff_toInt_lt, Int64.le_iff_toInt_le, ← Int64.toInt_inj, Int32.toInt_toInt64, Int32.reduceToInt, Int64.reduceToInt] at t_19_22
              refine lv_aload_n hx hb dX8_write_22 rfl (lv_at hl 1 rfl) ?_
              refine va_get (D := D) (ci := 8) (v := .ref mL) (C := RX8) (T := TX8) (N := 31) hx hb hts iX8_write_X8 hown hK hP 0 rfl rfl 29 (by decide) (hts (.fieldLink RX8 40 "TapeCalculatorModel" "line" "[B") (List.mem_of_getElem? (i := 1) rfl)) (fun _ h9 => h9) rfl dX8_write_23 ?_
              refine lv_aload_n hx hb dX8_write_26 rfl (lv_at hl 1 rfl) ?_
              refine va_get (D := D) (ci := 8) (v := .int x_21) (C := RX8) (T := TX8) (N := 31) hx hb hts iX8_write_X8 hown hK hP 0 rfl rfl 30 (by decide) (hts (.fieldLink RX8 285 "TapeCalculatorModel" "lineSize" "I") (List.mem_of_getElem? (i := 2) rfl)) (fun _ h9 => h9) rfl dX8_write_27 ?_
              refine lv_bipush (v := 48) hx hb dX8_write_30 (by decide) ?_
              refine lv_iload_n hx hb dX8_write_32 rfl (lv_at hl 2 rfl) ?_
              refine lv_iload_n hx hb dX8_write_33 rfl (lv_at hl 0 rfl) ?_
              refine lv_idiv hx hb dX8_write_34 (by decide) ?_
              refine lv_bipush (v := 10) hx hb dX8_write_35 (by decide) ?_
              refine lv_irem hx hb dX8_write_37 (by decide) ?_
              refine lv_iadd hx hb dX8_write_38 ?_
              refine lv_i2b hx hb dX8_write_39 rfl ?_
              refine va_bast hx hb hK hP hD hS 1 2 rfl rfl (vp_in_iff.mpr (by omega)) dX8_write_40 (fun H locs hP hD hS => ?_)
              have hP : va_P D vwCl [(m0, .inr (8, [.ref mH, .int aM, .long aC, .int mM, .long mQ, .int oV, .int pL, .int lI, .int sW, .int dP, .int sT, .long aT, .int cH, .int iW, .ref mI, .ref mJ, .ref mS, .ref mD, .int iH, .int aE, .int mN, .long sZ, .ref mX, .int tS, .int tA, .int tW, .ref mA, .ref mB, .ref mW, .ref mL, .int x_21])), (mL, .inl (cB, 16, .inl (upd (upd (upd fL lS.toNatClampNeg (vp_nar .byte (48 + ((v / 100) - (v / 100) / 10 * 10)).toInt8.toInt32)) x_18.toNatClampNeg (vp_nar .byte (48 + ((v / 10) - (v / 10) / 10 * 10)).toInt8.toInt32)) x_21.toNatClampNeg (vp_nar .byte (48 + ((v / 1) - (v / 1) / 10 * 10)).toInt8.toInt32))))] H := hP
              have hD : va_D A [(m0, .inr (8, [.ref mH, .int aM, .long aC, .int mM, .long mQ, .int oV, .int pL, .int lI, .int sW, .int dP, .int sT, .long aT, .int cH, .int iW, .ref mI, .ref mJ, .ref mS, .ref mD, .int iH, .int aE, .int mN, .long sZ, .ref mX, .int tS, .int tA, .int tW, .ref mA, .ref mB, .ref mW, .ref mL, .int x_21])), (mL, .inl (cB, 16, .inl (upd (upd (upd fL lS.toNatClampNeg (vp_nar .byte (48 + ((v / 100) - (v / 100) / 10 * 10)).toInt8.toInt32)) x_18.toNatClampNeg (vp_nar .byte (48 + ((v / 10) - (v / 10) / 10 * 10)).toInt8.toInt32)) x_21.toNatClampNeg (vp_nar .byte (48 + ((v / 1) - (v / 1) / 10 * 10)).toInt8.toInt32))))] := hD
              refine lv_aload_n hx hb dX8_write_41 rfl (lv_at hl 1 rfl) ?_
              refine lv_dup hx hb dX8_write_42 rfl ?_
              refine va_get (D := D) (ci := 8) (v := .int x_21) (C := RX8) (T := TX8) (N := 31) hx hb hts iX8_write_X8 hown hK hP 0 rfl rfl 30 (by decide) (hts (.fieldLink RX8 285 "TapeCalculatorModel" "lineSize" "I") (List.mem_of_getElem? (i := 2) rfl)) (fun _ h9 => h9) rfl dX8_write_43 ?_
              refine lv_iconst (v := 1) hx hb dX8_write_46 (by decide) ?_
              refine lv_iadd hx hb dX8_write_47 ?_
              refine lv_topi (fun x_24 ex_24 => ?_)
              refine va_put (D := D) (ci := 8) (v := .int x_24) (ty := .int) (C := RX8) (T := TX8) (N := 31) hx hb hts iX8_write_X8 tyX8 tyX8_ok nmX8 hown hK hP hD hS 0 rfl rfl 30 (by decide) (hts (.fieldLink RX8 285 "TapeCalculatorModel" "lineSize" "I") (List.mem_of_getElem? (i := 2) rfl)) (fun _ h9 => h9) rfl (by decide +kernel) rfl rfl (Nat.le_of_ble_eq_true rfl) dX8_write_48 (fun H locs hP hD hS => ?_)
              have hP : va_P D vwCl [(m0, .inr (8, [.ref mH, .int aM, .long aC, .int mM, .long mQ, .int oV, .int pL, .int lI, .int sW, .int dP, .int sT, .long aT, .int cH, .int iW, .ref mI, .ref mJ, .ref mS, .ref mD, .int iH, .int aE, .int mN, .long sZ, .ref mX, .int tS, .int tA, .int tW, .ref mA, .ref mB, .ref mW, .ref mL, .int x_24])), (mL, .inl (cB, 16, .inl (upd (upd (upd fL lS.toNatClampNeg (vp_nar .byte (48 + ((v / 100) - (v / 100) / 10 * 10)).toInt8.toInt32)) x_18.toNatClampNeg (vp_nar .byte (48 + ((v / 10) - (v / 10) / 10 * 10)).toInt8.toInt32)) x_21.toNatClampNeg (vp_nar .byte (48 + ((v / 1) - (v / 1) / 10 * 10)).toInt8.toInt32))))] H := hP
              have hD : va_D A [(m0, .inr (8, [.ref mH, .int aM, .long aC, .int mM, .long mQ, .int oV, .int pL, .int lI, .int sW, .int dP, .int sT, .long aT, .int cH, .int iW, .ref mI, .ref mJ, .ref mS, .ref mD, .int iH, .int aE, .int mN, .long sZ, .ref mX, .int tS, .int tA, .int tW, .ref mA, .ref mB, .ref mW, .ref mL, .int x_24])), (mL, .inl (cB, 16, .inl (upd (upd (upd fL lS.toNatClampNeg (vp_nar .byte (48 + ((v / 100) - (v / 100) / 10 * 10)).toInt8.toInt32)) x_18.toNatClampNeg (vp_nar .byte (48 + ((v / 10) - (v / 10) / 10 * 10)).toInt8.toInt32)) x_21.toNatClampNeg (vp_nar .byte (48 + ((v / 1) - (v / 1) / 10 * 10)).toInt8.toInt32))))] := hD
              have hdx_24 := k_addg (a := x_21) (b := 1) (by omega) (by decide)
              simp only [Int32.reduceToInt] at hdx_24
              rw [← ex_24] at hdx_24
              refine lv_iload_n hx hb dX8_write_51 rfl (lv_at hl 0 rfl) ?_
              refine lv_bipush (v := 10) hx hb dX8_write_52 (by decide) ?_
              refine lv_idiv hx hb dX8_write_54 (by decide) ?_
              refine lv_topi (fun x_25 ex_25 => ?_)
              obtain rfl : x_25 = 0 := ex_25.trans (by decide)
              refine lv_istore_n (lv' := [(2, .int 0), (0, .ref m0), (1, .int v)]) hx hb dX8_write_55 rfl hl (by decide) rfl (fun ls hl => ?_)
              refine lv_goto (tgt := 18) hx hb dX8_write_56 (by decide) ?_
              refine lv_iload_n hx hb dX8_write_18 rfl (lv_at hl 0 rfl) ?_
              refine lv_if_le (tgt := 59) hx hb dX8_write_19 (by decide) (fun c_19_25 => ?_) (fun c_19_25 => ?_)
              · have t_19_25 := c_19_25
                try simp only [kb_eq0, kb_ne0, lg_cmp_lt, lg_cmp_le, lg_cmp_gt, lg_cmp_ge, lg_cmp_eq] at t_19_25
                try simp only [Int32.lt_iff_toInt_lt, Int32.le_iff_toInt_le, ← Int32.toInt_inj, Int64.lt_iff_toInt_lt, Int64.le_iff_toInt_le, ← Int64.toInt_inj, Int32.toInt_toInt64, Int32.reduceToInt, Int64.reduceToInt] at t_19_25
                refine kVret (u := (x_24, (upd (upd (upd fL lS.toNatClampNeg (vp_nar .byte (48 + ((v / 100) - (v / 100) / 10 * 10)).toInt8.toInt32)) x_18.toNatClampNeg (vp_nar .byte (48 + ((v / 10) - (v / 10) / 10 * 10)).toInt8.toInt32)) x_21.toNatClampNeg (vp_nar .byte (48 + ((v / 1) - (v / 1) / 10 * 10)).toInt8.toInt32)))) hx hb hr hlocks hS dX8_write_59 ?_ (hP.sub [0, 1] rfl) (hD.sub [0, 1] (by decide) rfl)
                try dsimp only
                repeat' (with_reducible apply And.intro)
                all_goals first | with_reducible assumption | ((try simp only [jT_, jP_, jD_, jC_, jB_, jW_, Int32.reduceToInt, Int64.reduceToInt, true_or, or_true, true_and, and_true]) <;> omega)
              · exact absurd (by decide) c_19_25
      · have t_7_15 := c_7_15
        try simp only [kb_eq0, kb_ne0, lg_cmp_lt, lg_cmp_le, lg_cmp_gt, lg_cmp_ge, lg_cmp_eq] at t_7_15
        try simp only [Int32.lt_iff_toInt_lt, Int32.le_iff_toInt_le, ← Int32.toInt_inj, Int64.lt_iff_toInt_lt, Int64.le_iff_toInt_le, ← Int64.toInt_inj, Int32.toInt_toInt64, Int32.reduceToInt, Int64.reduceToInt] at t_7_15
        refine lv_iload_n hx hb dX8_write_10 rfl (lv_at hl 0 rfl) ?_
        refine lv_bipush (v := 10) hx hb dX8_write_11 (by decide) ?_
        refine lv_imul hx hb dX8_write_13 ?_
        refine lv_topi (fun x_27 ex_27 => ?_)
        obtain rfl : x_27 = 1000 := ex_27.trans (by decide)
        refine lv_istore_n (lv' := [(2, .int 1000), (0, .ref m0), (1, .int v)]) hx hb dX8_write_14 rfl hl (by decide) rfl (fun ls hl => ?_)
        refine lv_goto (tgt := 2) hx hb dX8_write_15 (by decide) ?_
        refine lv_iload_n hx hb dX8_write_2 rfl (lv_at hl 2 rfl) ?_
        refine lv_iload_n hx hb dX8_write_3 rfl (lv_at hl 0 rfl) ?_
        refine lv_idiv hx hb dX8_write_4 (by decide) ?_
        refine lv_bipush (v := 9) hx hb dX8_write_5 (by decide) ?_
        refine lv_icmp_le (tgt := 18) hx hb dX8_write_7 (by decide) (fun c_7_27 => ?_) (fun c_7_27 => ?_)
        · have t_7_27 := c_7_27
          try simp only [kb_eq0, kb_ne0, lg_cmp_lt, lg_cmp_le, lg_cmp_gt, lg_cmp_ge, lg_cmp_eq] at t_7_27
          try simp only [Int32.lt_iff_toInt_lt, Int32.le_iff_toInt_le, ← Int32.toInt_inj, Int64.lt_iff_toInt_lt, Int64.le_iff_toInt_le, ← Int64.toInt_inj, Int32.toInt_toInt64, Int32.reduceToInt, Int64.reduceToInt] at t_7_27
          refine lv_iload_n hx hb dX8_write_18 rfl (lv_at hl 0 rfl) ?_
          refine lv_if_le (tgt := 59) hx hb dX8_write_19 (by decide) (fun c_19_28 => ?_) (fun c_19_28 => ?_)
          · exact absurd c_19_28 (by decide)
          · have t_19_28 := c_19_28
            try simp only [kb_eq0, kb_ne0, lg_cmp_lt, lg_cmp_le, lg_cmp_gt, lg_cmp_ge, lg_cmp_eq] at t_19_28
            try simp only [Int32.lt_iff_toInt_lt, Int32.le_iff_toInt_le, ← Int32.toInt_inj, Int64.lt_iff_toInt_lt, Int64.le_iff_toInt_le, ← Int64.toInt_inj, Int32.toInt_toInt64, Int32.reduceToInt, Int64.reduceToInt] at t_19_28
            refine lv_aload_n hx hb dX8_write_22 rfl (lv_at hl 1 rfl) ?_
            refine va_get (D := D) (ci := 8) (v := .ref mL) (C := RX8) (T := TX8) (N := 31) hx hb hts iX8_write_X8 hown hK hP 0 rfl rfl 29 (by decide) (hts (.fieldLink RX8 40 "TapeCalculatorModel" "line" "[B") (List.mem_of_getElem? (i := 1) rfl)) (fun _ h9 => h9) rfl dX8_write_23 ?_
            refine lv_aload_n hx hb dX8_write_26 rfl (lv_at hl 1 rfl) ?_
            refine va_get (D := D) (ci := 8) (v := .int lS) (C := RX8) (T := TX8) (N := 31) hx hb hts iX8_write_X8 hown hK hP 0 rfl rfl 30 (by decide) (hts (.fieldLink RX8 285 "TapeCalculatorModel" "lineSize" "I") (List.mem_of_getElem? (i := 2) rfl)) (fun _ h9 => h9) rfl dX8_write_27 ?_
            refine lv_bipush (v := 48) hx hb dX8_write_30 (by decide) ?_
            refine lv_iload_n hx hb dX8_write_32 rfl (lv_at hl 2 rfl) ?_
            refine lv_iload_n hx hb dX8_write_33 rfl (lv_at hl 0 rfl) ?_
            refine lv_idiv hx hb dX8_write_34 (by decide) ?_
            refine lv_bipush (v := 10) hx hb dX8_write_35 (by decide) ?_
            refine lv_irem hx hb dX8_write_37 (by decide) ?_
            refine lv_iadd hx hb dX8_write_38 ?_
            refine lv_i2b hx hb dX8_write_39 rfl ?_
            refine va_bast hx hb hK hP hD hS 1 2 rfl rfl (vp_in_iff.mpr (by omega)) dX8_write_40 (fun H locs hP hD hS => ?_)
            have hP : va_P D vwCl [(m0, .inr (8, [.ref mH, .int aM, .long aC, .int mM, .long mQ, .int oV, .int pL, .int lI, .int sW, .int dP, .int sT, .long aT, .int cH, .int iW, .ref mI, .ref mJ, .ref mS, .ref mD, .int iH, .int aE, .int mN, .long sZ, .ref mX, .int tS, .int tA, .int tW, .ref mA, .ref mB, .ref mW, .ref mL, .int lS])), (mL, .inl (cB, 16, .inl (upd fL lS.toNatClampNeg (vp_nar .byte (48 + ((v / 1000) - (v / 1000) / 10 * 10)).toInt8.toInt32))))] H := hP
            have hD : va_D A [(m0, .inr (8, [.ref mH, .int aM, .long aC, .int mM, .long mQ, .int oV, .int pL, .int lI, .int sW, .int dP, .int sT, .long aT, .int cH, .int iW, .ref mI, .ref mJ, .ref mS, .ref mD, .int iH, .int aE, .int mN, .long sZ, .ref mX, .int tS, .int tA, .int tW, .ref mA, .ref mB, .ref mW, .ref mL, .int lS])), (mL, .inl (cB, 16, .inl (upd fL lS.toNatClampNeg (vp_nar .byte (48 + ((v / 1000) - (v / 1000) / 10 * 10)).toInt8.toInt32))))] := hD
            refine lv_aload_n hx hb dX8_write_41 rfl (lv_at hl 1 rfl) ?_
            refine lv_dup hx hb dX8_write_42 rfl ?_
            refine va_get (D := D) (ci := 8) (v := .int lS) (C := RX8) (T := TX8) (N := 31) hx hb hts iX8_write_X8 hown hK hP 0 rfl rfl 30 (by decide) (hts (.fieldLink RX8 285 "TapeCalculatorModel" "lineSize" "I") (List.mem_of_getElem? (i := 2) rfl)) (fun _ h9 => h9) rfl dX8_write_43 ?_
            refine lv_iconst (v := 1) hx hb dX8_write_46 (by decide) ?_
            refine lv_iadd hx hb dX8_write_47 ?_
            refine lv_topi (fun x_30 ex_30 => ?_)
            refine va_put (D := D) (ci := 8) (v := .int x_30) (ty := .int) (C := RX8) (T := TX8) (N := 31) hx hb hts iX8_write_X8 tyX8 tyX8_ok nmX8 hown hK hP hD hS 0 rfl rfl 30 (by decide) (hts (.fieldLink RX8 285 "TapeCalculatorModel" "lineSize" "I") (List.mem_of_getElem? (i := 2) rfl)) (fun _ h9 => h9) rfl (by decide +kernel) rfl rfl (Nat.le_of_ble_eq_true rfl) dX8_write_48 (fun H locs hP hD hS => ?_)
            have hP : va_P D vwCl [(m0, .inr (8, [.ref mH, .int aM, .long aC, .int mM, .long mQ, .int oV, .int pL, .int lI, .int sW, .int dP, .int sT, .long aT, .int cH, .int iW, .ref mI, .ref mJ, .ref mS, .ref mD, .int iH, .int aE, .int mN, .long sZ, .ref mX, .int tS, .int tA, .int tW, .ref mA, .ref mB, .ref mW, .ref mL, .int x_30])), (mL, .inl (cB, 16, .inl (upd fL lS.toNatClampNeg (vp_nar .byte (48 + ((v / 1000) - (v / 1000) / 10 * 10)).toInt8.toInt32))))] H := hP
            have hD : va_D A [(m0, .inr (8, [.ref mH, .int aM, .long aC, .int mM, .long mQ, .int oV, .int pL, .int lI, .int sW, .int dP, .int sT, .long aT, .int cH, .int iW, .ref mI, .ref mJ, .ref mS, .ref mD, .int iH, .int aE, .int mN, .long sZ, .ref mX, .int tS, .int tA, .int tW, .ref mA, .ref mB, .ref mW, .ref mL, .int x_30])), (mL, .inl (cB, 16, .inl (upd fL lS.toNatClampNeg (vp_nar .byte (48 + ((v / 1000) - (v / 1000) / 10 * 10)).toInt8.toInt32))))] := hD
            have hdx_30 := k_addg (a := lS) (b := 1) (by omega) (by decide)
            simp only [Int32.reduceToInt] at hdx_30
            rw [← ex_30] at hdx_30
            refine lv_iload_n hx hb dX8_write_51 rfl (lv_at hl 0 rfl) ?_
            refine lv_bipush (v := 10) hx hb dX8_write_52 (by decide) ?_
            refine lv_idiv hx hb dX8_write_54 (by decide) ?_
            refine lv_topi (fun x_31 ex_31 => ?_)
            obtain rfl : x_31 = 100 := ex_31.trans (by decide)
            refine lv_istore_n (lv' := [(2, .int 100), (0, .ref m0), (1, .int v)]) hx hb dX8_write_55 rfl hl (by decide) rfl (fun ls hl => ?_)
            refine lv_goto (tgt := 18) hx hb dX8_write_56 (by decide) ?_
            refine lv_iload_n hx hb dX8_write_18 rfl (lv_at hl 0 rfl) ?_
            refine lv_if_le (tgt := 59) hx hb dX8_write_19 (by decide) (fun c_19_31 => ?_) (fun c_19_31 => ?_)
            · exact absurd c_19_31 (by decide)
            · have t_19_31 := c_19_31
              try simp only [kb_eq0, kb_ne0, lg_cmp_lt, lg_cmp_le, lg_cmp_gt, lg_cmp_ge, lg_cmp_eq] at t_19_31
              try simp only [Int32.lt_iff_toInt_lt, Int32.le_iff_toInt_le, ← Int32.toInt_inj, Int64.lt_iff_toInt_lt, Int64.le_iff_toInt_le, ← Int64.toInt_inj, Int32.toInt_toInt64, Int32.reduceToInt, Int64.reduceToInt] at t_19_31
              refine lv_aload_n hx hb dX8_write_22 rfl (lv_at hl 1 rfl) ?_
              refine va_get (D := D) (ci := 8) (v := .ref mL) (C := RX8) (T := TX8) (N := 31) hx hb hts iX8_write_X8 hown hK hP 0 rfl rfl 29 (by decide) (hts (.fieldLink RX8 40 "TapeCalculatorModel" "line" "[B") (List.mem_of_getElem? (i := 1) rfl)) (fun _ h9 => h9) rfl dX8_write_23 ?_
              refine lv_aload_n hx hb dX8_write_26 rfl (lv_at hl 1 rfl) ?_
              refine va_get (D := D) (ci := 8) (v := .int x_30) (C := RX8) (T := TX8) (N := 31) hx hb hts iX8_write_X8 hown hK hP 0 rfl rfl 30 (by decide) (hts (.fieldLink RX8 285 "TapeCalculatorModel" "lineSize" "I") (List.mem_of_getElem? (i := 2) rfl)) (fun _ h9 => h9) rfl dX8_write_27 ?_
              refine lv_bipush (v := 48) hx hb dX8_write_30 (by decide) ?_
              refine lv_iload_n hx hb dX8_write_32 rfl (lv_at hl 2 rfl) ?_
              refine lv_iload_n hx hb dX8_write_33 rfl (lv_at hl 0 rfl) ?_
              refine lv_idiv hx hb dX8_write_34 (by decide) ?_
              refine lv_bipush (v := 10) hx hb dX8_write_35 (by decide) ?_
              refine lv_irem hx hb dX8_write_37 (by decide) ?_
              refine lv_iadd hx hb dX8_write_38 ?_
              refine lv_i2b hx hb dX8_write_39 rfl ?_
              refine va_bast hx hb hK hP hD hS 1 2 rfl rfl (vp_in_iff.mpr (by omega)) dX8_write_40 (fun H locs hP hD hS => ?_)
              have hP : va_P D vwCl [(m0, .inr (8, [.ref mH, .int aM, .long aC, .int mM, .long mQ, .int oV, .int pL, .int lI, .int sW, .int dP, .int sT, .long aT, .int cH, .int iW, .ref mI, .ref mJ, .ref mS, .ref mD, .int iH, .int aE, .int mN, .long sZ, .ref mX, .int tS, .int tA, .int tW, .ref mA, .ref mB, .ref mW, .ref mL, .int x_30])), (mL, .inl (cB, 16, .inl (upd (upd fL lS.toNatClampNeg (vp_nar .byte (48 + ((v / 1000) - (v / 1000) / 10 * 10)).toInt8.toInt32)) x_30.toNatClampNeg (vp_nar .byte (48 + ((v / 100) - (v / 100) / 10 * 10)).toInt8.toInt32))))] H := hP
              have hD : va_D A [(m0, .inr (8, [.ref mH, .int aM, .long aC, .int mM, .long mQ, .int oV, .int pL, .int lI, .int sW, .int dP, .int sT, .long aT, .int cH, .int iW, .ref mI, .ref mJ, .ref mS, .ref mD, .int iH, .int aE, .int mN, .long sZ, .ref mX, .int tS, .int tA, .int tW, .ref mA, .ref mB, .ref mW, .ref mL, .int x_30])), (mL, .inl (cB, 16, .inl (upd (upd fL lS.toNatClampNeg (vp_nar .byte (48 + ((v / 1000) - (v / 1000) / 10 * 10)).toInt8.toInt32)) x_30.toNatClampNeg (vp_nar .byte (48 + ((v / 100) - (v / 100) / 10 * 10)).toInt8.toInt32))))] := hD
              refine lv_aload_n hx hb dX8_write_41 rfl (lv_at hl 1 rfl) ?_
              refine lv_dup hx hb dX8_write_42 rfl ?_
              refine va_get (D := D) (ci := 8) (v := .int x_30) (C := RX8) (T := TX8) (N := 31) hx hb hts iX8_write_X8 hown hK hP 0 rfl rfl 30 (by decide) (hts (.fieldLink RX8 285 "TapeCalculatorModel" "lineSize" "I") (List.mem_of_getElem? (i := 2) rfl)) (fun _ h9 => h9) rfl dX8_write_43 ?_
              refine lv_iconst (v := 1) hx hb dX8_write_46 (by decide) ?_
              refine lv_iadd hx hb dX8_write_47 ?_
              refine lv_topi (fun x_33 ex_33 => ?_)
              refine va_put (D := D) (ci := 8) (v := .int x_33) (ty := .int) (C := RX8) (T := TX8) (N := 31) hx hb hts iX8_write_X8 tyX8 tyX8_ok nmX8 hown hK hP hD hS 0 rfl rfl 30 (by decide) (hts (.fieldLink RX8 285 "TapeCalculatorModel" "lineSize" "I") (List.mem_of_getElem? (i := 2) rfl)) (fun _ h9 => h9) rfl (by decide +kernel) rfl rfl (Nat.le_of_ble_eq_true rfl) dX8_write_48 (fun H locs hP hD hS => ?_)
              have hP : va_P D vwCl [(m0, .inr (8, [.ref mH, .int aM, .long aC, .int mM, .long mQ, .int oV, .int pL, .int lI, .int sW, .int dP, .int sT, .long aT, .int cH, .int iW, .ref mI, .ref mJ, .ref mS, .ref mD, .int iH, .int aE, .int mN, .long sZ, .ref mX, .int tS, .int tA, .int tW, .ref mA, .ref mB, .ref mW, .ref mL, .int x_33])), (mL, .inl (cB, 16, .inl (upd (upd fL lS.toNatClampNeg (vp_nar .byte (48 + ((v / 1000) - (v / 1000) / 10 * 10)).toInt8.toInt32)) x_30.toNatClampNeg (vp_nar .byte (48 + ((v / 100) - (v / 100) / 10 * 10)).toInt8.toInt32))))] H := hP
              have hD : va_D A [(m0, .inr (8, [.ref mH, .int aM, .long aC, .int mM, .long mQ, .int oV, .int pL, .int lI, .int sW, .int dP, .int sT, .long aT, .int cH, .int iW, .ref mI, .ref mJ, .ref mS, .ref mD, .int iH, .int aE, .int mN, .long sZ, .ref mX, .int tS, .int tA, .int tW, .ref mA, .ref mB, .ref mW, .ref mL, .int x_33])), (mL, .inl (cB, 16, .inl (upd (upd fL lS.toNatClampNeg (vp_nar .byte (48 + ((v / 1000) - (v / 1000) / 10 * 10)).toInt8.toInt32)) x_30.toNatClampNeg (vp_nar .byte (48 + ((v / 100) - (v / 100) / 10 * 10)).toInt8.toInt32))))] := hD
              have hdx_33 := k_addg (a := x_30) (b := 1) (by omega) (by decide)
              simp only [Int32.reduceToInt] at hdx_33
              rw [← ex_33] at hdx_33
              refine lv_iload_n hx hb dX8_write_51 rfl (lv_at hl 0 rfl) ?_
              refine lv_bipush (v := 10) hx hb dX8_write_52 (by decide) ?_
              refine lv_idiv hx hb dX8_write_54 (by decide) ?_
              refine lv_topi (fun x_34 ex_34 => ?_)
              obtain rfl : x_34 = 10 := ex_34.trans (by decide)
              refine lv_istore_n (lv' := [(2, .int 10), (0, .ref m0), (1, .int v)]) hx hb dX8_write_55 rfl hl (by decide) rfl (fun ls hl => ?_)
              refine lv_goto (tgt := 18) hx hb dX8_write_56 (by decide) ?_
              refine lv_iload_n hx hb dX8_write_18 rfl (lv_at hl 0 rfl) ?_
              refine lv_if_le (tgt := 59) hx hb dX8_write_19 (by decide) (fun c_19_34 => ?_) (fun c_19_34 => ?_)
              · exact absurd c_19_34 (by decide)
              · have t_19_34 := c_19_34
                try simp only [kb_eq0, kb_ne0, lg_cmp_lt, lg_cmp_le, lg_cmp_gt, lg_cmp_ge, lg_cmp_eq] at t_19_34
                try simp only [Int32.lt_iff_toInt_lt, Int32.le_iff_toInt_le, ← Int32.toInt_inj, Int64.lt_iff_toInt_lt, Int64.le_iff_toInt_le, ← Int64.toInt_inj, Int32.toInt_toInt64, Int32.reduceToInt, Int64.reduceToInt] at t_19_34
                refine lv_aload_n hx hb dX8_write_22 rfl (lv_at hl 1 rfl) ?_
                refine va_get (D := D) (ci := 8) (v := .ref mL) (C := RX8) (T := TX8) (N := 31) hx hb hts iX8_write_X8 hown hK hP 0 rfl rfl 29 (by decide) (hts (.fieldLink RX8 40 "TapeCalculatorModel" "line" "[B") (List.mem_of_getElem? (i := 1) rfl)) (fun _ h9 => h9) rfl dX8_write_23 ?_
                refine lv_aload_n hx hb dX8_write_26 rfl (lv_at hl 1 rfl) ?_
                refine va_get (D := D) (ci := 8) (v := .int x_33) (C := RX8) (T := TX8) (N := 31) hx hb hts iX8_write_X8 hown hK hP 0 rfl rfl 30 (by decide) (hts (.fieldLink RX8 285 "TapeCalculatorModel" "lineSize" "I") (List.mem_of_getElem? (i := 2) rfl)) (fun _ h9 => h9) rfl dX8_write_27 ?_
                refine lv_bipush (v := 48) hx hb dX8_write_30 (by decide) ?_
                refine lv_iload_n hx hb dX8_write_32 rfl (lv_at hl 2 rfl) ?_
                refine lv_iload_n hx hb dX8_write_33 rfl (lv_at hl 0 rfl) ?_
                refine lv_idiv hx hb dX8_write_34 (by decide) ?_
                refine lv_bipush (v := 10) hx hb dX8_write_35 (by decide) ?_
                refine lv_irem hx hb dX8_write_37 (by decide) ?_
                refine lv_iadd hx hb dX8_write_38 ?_
                refine lv_i2b hx hb dX8_write_39 rfl ?_
                refine va_bast hx hb hK hP hD hS 1 2 rfl rfl (vp_in_iff.mpr (by omega)) dX8_write_40 (fun H locs hP hD hS => ?_)
                have hP : va_P D vwCl [(m0, .inr (8, [.ref mH, .int aM, .long aC, .int mM, .long mQ, .int oV, .int pL, .int lI, .int sW, .int dP, .int sT, .long aT, .int cH, .int iW, .ref mI, .ref mJ, .ref mS, .ref mD, .int iH, .int aE, .int mN, .long sZ, .ref mX, .int tS, .int tA, .int tW, .ref mA, .ref mB, .ref mW, .ref mL, .int x_33])), (mL, .inl (cB, 16, .inl (upd (upd (upd fL lS.toNatClampNeg (vp_nar .byte (48 + ((v / 1000) - (v / 1000) / 10 * 10)).toInt8.toInt32)) x_30.toNatClampNeg (vp_nar .byte (48 + ((v / 100) - (v / 100) / 10 * 10)).toInt8.toInt32)) x_33.toNatClampNeg (vp_nar .byte (48 + ((v / 10) - (v / 10) / 10 * 10)).toInt8.toInt32))))] H := hP
                have hD : va_D A [(m0, .inr (8, [.ref mH, .int aM, .long aC, .int mM, .long mQ, .int oV, .int pL, .int lI, .int sW, .int dP, .int sT, .long aT, .int cH, .int iW, .ref mI, .ref mJ, .ref mS, .ref mD, .int iH, .int aE, .int mN, .long sZ, .ref mX, .int tS, .int tA, .int tW, .ref mA, .ref mB, .ref mW, .ref mL, .int x_33])), (mL, .inl (cB, 16, .inl (upd (upd (upd fL lS.toNatClampNeg (vp_nar .byte (48 + ((v / 1000) - (v / 1000) / 10 * 10)).toInt8.toInt32)) x_30.toNatClampNeg (vp_nar .byte (48 + ((v / 100) - (v / 100) / 10 * 10)).toInt8.toInt32)) x_33.toNatClampNeg (vp_nar .byte (48 + ((v / 10) - (v / 10) / 10 * 10)).toInt8.toInt32))))] := hD
                refine lv_aload_n hx hb dX8_write_41 rfl (lv_at hl 1 rfl) ?_
                refine lv_dup hx hb dX8_write_42 rfl ?_
                refine va_get (D := D) (ci := 8) (v := .int x_33) (C := RX8) (T := TX8) (N := 31) hx hb hts iX8_write_X8 hown hK hP 0 rfl rfl 30 (by decide) (hts (.fieldLink RX8 285 "TapeCalculatorModel" "lineSize" "I") (List.mem_of_getElem? (i := 2) rfl)) (fun _ h9 => h9) rfl dX8_write_43 ?_
                refine lv_iconst (v := 1) hx hb dX8_write_46 (by decide) ?_
                refine lv_iadd hx hb dX8_write_47 ?_
                refine lv_topi (fun x_36 ex_36 => ?_)
                refine va_put (D := D) (ci := 8) (v := .int x_36) (ty := .int) (C := RX8) (T := TX8) (N := 31) hx hb hts iX8_write_X8 tyX8 tyX8_ok nmX8 hown hK hP hD hS 0 rfl rfl 30 (by decide) (hts (.fieldLink RX8 285 "TapeCalculatorModel" "lineSize" "I") (List.mem_of_getElem? (i := 2) rfl)) (fun _ h9 => h9) rfl (by decide +kernel) rfl rfl (Nat.le_of_ble_eq_true rfl) dX8_write_48 (fun H locs hP hD hS => ?_)
                have hP : va_P D vwCl [(m0, .inr (8, [.ref mH, .int aM, .long aC, .int mM, .long mQ, .int oV, .int pL, .int lI, .int sW, .int dP, .int sT, .long aT, .int cH, .int iW, .ref mI, .ref mJ, .ref mS, .ref mD, .int iH, .int aE, .int mN, .long sZ, .ref mX, .int tS, .int tA, .int tW, .ref mA, .ref mB, .ref mW, .ref mL, .int x_36])), (mL, .inl (cB, 16, .inl (upd (upd (upd fL lS.toNatClampNeg (vp_nar .byte (48 + ((v / 1000) - (v / 1000) / 10 * 10)).toInt8.toInt32)) x_30.toNatClampNeg (vp_nar .byte (48 + ((v / 100) - (v / 100) / 10 * 10)).toInt8.toInt32)) x_33.toNatClampNeg (vp_nar .byte (48 + ((v / 10) - (v / 10) / 10 * 10)).toInt8.toInt32))))] H := hP
                have hD : va_D A [(m0, .inr (8, [.ref mH, .int aM, .long aC, .int mM, .long mQ, .int oV, .int pL, .int lI, .int sW, .int dP, .int sT, .long aT, .int cH, .int iW, .ref mI, .ref mJ, .ref mS, .ref mD, .int iH, .int aE, .int mN, .long sZ, .ref mX, .int tS, .int tA, .int tW, .ref mA, .ref mB, .ref mW, .ref mL, .int x_36])), (mL, .inl (cB, 16, .inl (upd (upd (upd fL lS.toNatClampNeg (vp_nar .byte (48 + ((v / 1000) - (v / 1000) / 10 * 10)).toInt8.toInt32)) x_30.toNatClampNeg (vp_nar .byte (48 + ((v / 100) - (v / 100) / 10 * 10)).toInt8.toInt32)) x_33.toNatClampNeg (vp_nar .byte (48 + ((v / 10) - (v / 10) / 10 * 10)).toInt8.toInt32))))] := hD
                have hdx_36 := k_addg (a := x_33) (b := 1) (by omega) (by decide)
                simp only [Int32.reduceToInt] at hdx_36
                rw [← ex_36] at hdx_36
                refine lv_iload_n hx hb dX8_write_51 rfl (lv_at hl 0 rfl) ?_
                refine lv_bipush (v := 10) hx hb dX8_write_52 (by decide) ?_
                refine lv_idiv hx hb dX8_write_54 (by decide) ?_
                refine lv_topi (fun x_37 ex_37 => ?_)
                obtain rfl : x_37 = 1 := ex_37.trans (by decide)
                refine lv_istore_n (lv' := [(2, .int 1), (0, .ref m0), (1, .int v)]) hx hb dX8_write_55 rfl hl (by decide) rfl (fun ls hl => ?_)
                refine lv_goto (tgt := 18) hx hb dX8_write_56 (by decide) ?_
                refine lv_iload_n hx hb dX8_write_18 rfl (lv_at hl 0 rfl) ?_
                refine lv_if_le (tgt := 59) hx hb dX8_write_19 (by decide) (fun c_19_37 => ?_) (fun c_19_37 => ?_)
                · exact absurd c_19_37 (by decide)
                · have t_19_37 := c_19_37
                  try simp only [kb_eq0, kb_ne0, lg_cmp_lt, lg_cmp_le, lg_cmp_gt, lg_cmp_ge, lg_cmp_eq] at t_19_37
                  try simp only [Int32.lt_iff_toInt_lt, Int32.le_iff_toInt_le, ← Int32.toInt_inj, Int64.lt_iff_toInt_lt, Int64.le_iff_toInt_le, ← Int64.toInt_inj, Int32.toInt_toInt64, Int32.reduceToInt, Int64.reduceToInt] at t_19_37
                  refine lv_aload_n hx hb dX8_write_22 rfl (lv_at hl 1 rfl) ?_
                  refine va_get (D := D) (ci := 8) (v := .ref mL) (C := RX8) (T := TX8) (N := 31) hx hb hts iX8_write_X8 hown hK hP 0 rfl rfl 29 (by decide) (hts (.fieldLink RX8 40 "TapeCalculatorModel" "line" "[B") (List.mem_of_getElem? (i := 1) rfl)) (fun _ h9 => h9) rfl dX8_write_23 ?_
                  refine lv_aload_n hx hb dX8_write_26 rfl (lv_at hl 1 rfl) ?_
                  refine va_get (D := D) (ci := 8) (v := .int x_36) (C := RX8) (T := TX8) (N := 31) hx hb hts iX8_write_X8 hown hK hP 0 rfl rfl 30 (by decide) (hts (.fieldLink RX8 285 "TapeCalculatorModel" "lineSize" "I") (List.mem_of_getElem? (i := 2) rfl)) (fun _ h9 => h9) rfl dX8_write_27 ?_
                  refine lv_bipush (v := 48) hx hb dX8_write_30 (by decide) ?_
                  refine lv_iload_n hx hb dX8_write_32 rfl (lv_at hl 2 rfl) ?_
                  refine lv_iload_n hx hb dX8_write_33 rfl (lv_at hl 0 rfl) ?_
                  refine lv_idiv hx hb dX8_write_34 (by decide) ?_
                  refine lv_bipush (v := 10) hx hb dX8_write_35 (by decide) ?_
                  refine lv_irem hx hb dX8_write_37 (by decide) ?_
                  refine lv_iadd hx hb dX8_write_38 ?_
                  refine lv_i2b hx hb dX8_write_39 rfl ?_
                  refine va_bast hx hb hK hP hD hS 1 2 rfl rfl (vp_in_iff.mpr (by omega)) dX8_write_40 (fun H locs hP hD hS => ?_)
                  have hP : va_P D vwCl [(m0, .inr (8, [.ref mH, .int aM, .long aC, .int mM, .long mQ, .int oV, .int pL, .int lI, .int sW, .int dP, .int sT, .long aT, .int cH, .int iW, .ref mI, .ref mJ, .ref mS, .ref mD, .int iH, .int aE, .int mN, .long sZ, .ref mX, .int tS, .int tA, .int tW, .ref mA, .ref mB, .ref mW, .ref mL, .int x_36])), (mL, .inl (cB, 16, .inl (upd (upd (upd (upd fL lS.toNatClampNeg (vp_nar .byte (48 + ((v / 1000) - (v / 1000) / 10 * 10)).toInt8.toInt32)) x_30.toNatClampNeg (vp_nar .byte (48 + ((v / 100) - (v / 100) / 10 * 10)).toInt8.toInt32)) x_33.toNatClampNeg (vp_nar .byte (48 + ((v / 10) - (v / 10) / 10 * 10)).toInt8.toInt32)) x_36.toNatClampNeg (vp_nar .byte (48 + ((v / 1) - (v / 1) / 10 * 10)).toInt8.toInt32))))] H := hP
                  have hD : va_D A [(m0, .inr (8, [.ref mH, .int aM, .long aC, .int mM, .long mQ, .int oV, .int pL, .int lI, .int sW, .int dP, .int sT, .long aT, .int cH, .int iW, .ref mI, .ref mJ, .ref mS, .ref mD, .int iH, .int aE, .int mN, .long sZ, .ref mX, .int tS, .int tA, .int tW, .ref mA, .ref mB, .ref mW, .ref mL, .int x_36])), (mL, .inl (cB, 16, .inl (upd (upd (upd (upd fL lS.toNatClampNeg (vp_nar .byte (48 + ((v / 1000) - (v / 1000) / 10 * 10)).toInt8.toInt32)) x_30.toNatClampNeg (vp_nar .byte (48 + ((v / 100) - (v / 100) / 10 * 10)).toInt8.toInt32)) x_33.toNatClampNeg (vp_nar .byte (48 + ((v / 10) - (v / 10) / 10 * 10)).toInt8.toInt32)) x_36.toNatClampNeg (vp_nar .byte (48 + ((v / 1) - (v / 1) / 10 * 10)).toInt8.toInt32))))] := hD
                  refine lv_aload_n hx hb dX8_write_41 rfl (lv_at hl 1 rfl) ?_
                  refine lv_dup hx hb dX8_write_42 rfl ?_
                  refine va_get (D := D) (ci := 8) (v := .int x_36) (C := RX8) (T := TX8) (N := 31) hx hb hts iX8_write_X8 hown hK hP 0 rfl rfl 30 (by decide) (hts (.fieldLink RX8 285 "TapeCalculatorModel" "lineSize" "I") (List.mem_of_getElem? (i := 2) rfl)) (fun _ h9 => h9) rfl dX8_write_43 ?_
                  refine lv_iconst (v := 1) hx hb dX8_write_46 (by decide) ?_
                  refine lv_iadd hx hb dX8_write_47 ?_
                  refine lv_topi (fun x_39 ex_39 => ?_)
                  refine va_put (D := D) (ci := 8) (v := .int x_39) (ty := .int) (C := RX8) (T := TX8) (N := 31) hx hb hts iX8_write_X8 tyX8 tyX8_ok nmX8 hown hK hP hD hS 0 rfl rfl 30 (by decide) (hts (.fieldLink RX8 285 "TapeCalculatorModel" "lineSize" "I") (List.mem_of_getElem? (i := 2) rfl)) (fun _ h9 => h9) rfl (by decide +kernel) rfl rfl (Nat.le_of_ble_eq_true rfl) dX8_write_48 (fun H locs hP hD hS => ?_)
                  have hP : va_P D vwCl [(m0, .inr (8, [.ref mH, .int aM, .long aC, .int mM, .long mQ, .int oV, .int pL, .int lI, .int sW, .int dP, .int sT, .long aT, .int cH, .int iW, .ref mI, .ref mJ, .ref mS, .ref mD, .int iH, .int aE, .int mN, .long sZ, .ref mX, .int tS, .int tA, .int tW, .ref mA, .ref mB, .ref mW, .ref mL, .int x_39])), (mL, .inl (cB, 16, .inl (upd (upd (upd (upd fL lS.toNatClampNeg (vp_nar .byte (48 + ((v / 1000) - (v / 1000) / 10 * 10)).toInt8.toInt32)) x_30.toNatClampNeg (vp_nar .byte (48 + ((v / 100) - (v / 100) / 10 * 10)).toInt8.toInt32)) x_33.toNatClampNeg (vp_nar .byte (48 + ((v / 10) - (v / 10) / 10 * 10)).toInt8.toInt32)) x_36.toNatClampNeg (vp_nar .byte (48 + ((v / 1) - (v / 1) / 10 * 10)).toInt8.toInt32))))] H := hP
                  have hD : va_D A [(m0, .inr (8, [.ref mH, .int aM, .long aC, .int mM, .long mQ, .int oV, .int pL, .int lI, .int sW, .int dP, .int sT, .long aT, .int cH, .int iW, .ref mI, .ref mJ, .ref mS, .ref mD, .int iH, .int aE, .int mN, .long sZ, .ref mX, .int tS, .int tA, .int tW, .ref mA, .ref mB, .ref mW, .ref mL, .int x_39])), (mL, .inl (cB, 16, .inl (upd (upd (upd (upd fL lS.toNatClampNeg (vp_nar .byte (48 + ((v / 1000) - (v / 1000) / 10 * 10)).toInt8.toInt32)) x_30.toNatClampNeg (vp_nar .byte (48 + ((v / 100) - (v / 100) / 10 * 10)).toInt8.toInt32)) x_33.toNatClampNeg (vp_nar .byte (48 + ((v / 10) - (v / 10) / 10 * 10)).toInt8.toInt32)) x_36.toNatClampNeg (vp_nar .byte (48 + ((v / 1) - (v / 1) / 10 * 10)).toInt8.toInt32))))] := hD
                  have hdx_39 := k_addg (a := x_36) (b := 1) (by omega) (by decide)
                  simp only [Int32.reduceToInt] at hdx_39
                  rw [← ex_39] at hdx_39
                  refine lv_iload_n hx hb dX8_write_51 rfl (lv_at hl 0 rfl) ?_
                  refine lv_bipush (v := 10) hx hb dX8_write_52 (by decide) ?_
                  refine lv_idiv hx hb dX8_write_54 (by decide) ?_
                  refine lv_topi (fun x_40 ex_40 => ?_)
                  obtain rfl : x_40 = 0 := ex_40.trans (by decide)
                  refine lv_istore_n (lv' := [(2, .int 0), (0, .ref m0), (1, .int v)]) hx hb dX8_write_55 rfl hl (by decide) rfl (fun ls hl => ?_)
                  refine lv_goto (tgt := 18) hx hb dX8_write_56 (by decide) ?_
                  refine lv_iload_n hx hb dX8_write_18 rfl (lv_at hl 0 rfl) ?_
                  refine lv_if_le (tgt := 59) hx hb dX8_write_19 (by decide) (fun c_19_40 => ?_) (fun c_19_40 => ?_)
                  · have t_19_40 := c_19_40
                    try simp only [kb_eq0, kb_ne0, lg_cmp_lt, lg_cmp_le, lg_cmp_gt, lg_cmp_ge, lg_cmp_eq] at t_19_40
                    try simp only [Int32.lt_iff_toInt_lt, Int32.le_iff_toInt_le, ← Int32.toInt_inj, Int64.lt_iff_toInt_lt, Int64.le_iff_toInt_le, ← Int64.toInt_inj, Int32.toInt_toInt64, Int32.reduceToInt, Int64.reduceToInt] at t_19_40
                    refine kVret (u := (x_39, (upd (upd (upd (upd fL lS.toNatClampNeg (vp_nar .byte (48 + ((v / 1000) - (v / 1000) / 10 * 10)).toInt8.toInt32)) x_30.toNatClampNeg (vp_nar .byte (48 + ((v / 100) - (v / 100) / 10 * 10)).toInt8.toInt32)) x_33.toNatClampNeg (vp_nar .byte (48 + ((v / 10) - (v / 10) / 10 * 10)).toInt8.toInt32)) x_36.toNatClampNeg (vp_nar .byte (48 + ((v / 1) - (v / 1) / 10 * 10)).toInt8.toInt32)))) hx hb hr hlocks hS dX8_write_59 ?_ (hP.sub [0, 1] rfl) (hD.sub [0, 1] (by decide) rfl)
                    try dsimp only
                    repeat' (with_reducible apply And.intro)
                    all_goals first | with_reducible assumption | ((try simp only [jT_, jP_, jD_, jC_, jB_, jW_, Int32.reduceToInt, Int64.reduceToInt, true_or, or_true, true_and, and_true]) <;> omega)
                  · exact absurd (by decide) c_19_40
        · have t_7_27 := c_7_27
          try simp only [kb_eq0, kb_ne0, lg_cmp_lt, lg_cmp_le, lg_cmp_gt, lg_cmp_ge, lg_cmp_eq] at t_7_27
          try simp only [Int32.lt_iff_toInt_lt, Int32.le_iff_toInt_le, ← Int32.toInt_inj, Int64.lt_iff_toInt_lt, Int64.le_iff_toInt_le, ← Int64.toInt_inj, Int32.toInt_toInt64, Int32.reduceToInt, Int64.reduceToInt] at t_7_27
          omega
set_option maxRecDepth 100000 in
theorem iX8_written_X8 : ∀ w ∈ wsX80, w ∈ wsX8_written := fun w h => (goodIn_r (big := wsX8_written) wsX80 [13, 14, 15, 16, 17, 18, 19, 20, 21, 22, 23, 24, 25, 26, 27, 28, 29, 30, 31, 32, 33, 34, 35, 36, 37, 38, 39, 40, 41, 42, 43] rfl (by decide +kernel) w h).1
set_option maxRecDepth 100000 in
set_option maxHeartbeats 4000000 in
theorem q_written (l : Launch) (D : va_G) (cI cL cB cZ cT : ClassId) (sz : Nat) (m0 mH mI mJ mS mD mX mA mB mW mL : Nat) (aM : Int32) (aC : Int64) (mM : Int32) (mQ : Int64) (oV pL lI sW dP sT : Int32) (aT : Int64) (cH iW iH aE mN : Int32) (sZ : Int64) (tS tA tW lS : Int32) (fH : Nat → Int32) (fL : Nat → Int32) (n i : Int32) : kM (S := (Int32 × (Nat → Int32))) l yX8_written wsX8_written ({ frames := 1, cells := 0, slots := 0, locals := 25 }) D (kT cI cL cB cZ cT) [.ref m0, .int n, .int i] [(m0, .inr (8, [.ref mH, .int aM, .long aC, .int mM, .long mQ, .int oV, .int pL, .int lI, .int sW, .int dP, .int sT, .long aT, .int cH, .int iW, .ref mI, .ref mJ, .ref mS, .ref mD, .int iH, .int aE, .int mN, .long sZ, .ref mX, .int tS, .int tA, .int tW, .ref mA, .ref mB, .ref mW, .ref mL, .int lS])), (mH, .inl (cI, 512, .inl fH)), (mL, .inl (cB, 16, .inl fL))] sz eI (fun _ _ => True) (fun u => [(m0, .inr (8, [.ref mH, .int aM, .long aC, .int mM, .long mQ, .int oV, .int pL, .int lI, .int sW, .int dP, .int sT, .long aT, .int cH, .int iW, .ref mI, .ref mJ, .ref mS, .ref mD, .int iH, .int aE, .int mN, .long sZ, .ref mX, .int tS, .int tA, .int tW, .ref mA, .ref mB, .ref mW, .ref mL, .int u.1])), (mH, .inl (cI, 512, .inl fH)), (mL, .inl (cB, 16, .inl u.2))]) 0 0 := by
  refine kStart (cc := cX8_written) (maxL := 3) (ret := (some .int)) (own := RX8) (by decide) rfl rfl (Nat.le_of_ble_eq_true rfl) ?_
  intro p e s m args below meth c A ls hx hb hr hml hown hts hlocks hnm hsz hA hG hP hD hS hl
  have hK := hG.1
  have hl : lv_has ls 3 [(0, .ref m0), (1, .int n), (2, .int i)] := hl
  refine lv_iload_n hx hb dX8_written_0 rfl (lv_at hl 1 rfl) ?_
  refine lv_i2l hx hb dX8_written_1 rfl ?_
  refine lv_lconst (v := 0) hx hb dX8_written_2 (by decide) ?_
  refine lv_ldc2 (v := 511) hx hb hown (hts (.constantLong RX8 47 (511)) (List.mem_of_getElem? (i := 1) rfl)) dX8_written_3 ?_
  refine kCallI (wr := [(m0, .inr (8, [.ref mH, .int aM, .long aC, .int mM, .long mQ, .int oV, .int pL, .int lI, .int sW, .int dP, .int sT, .long aT, .int cH, .int iW, .ref mI, .ref mJ, .ref mS, .ref mD, .int iH, .int aE, .int mN, .long sZ, .ref mX, .int tS, .int tA, .int tW, .ref mA, .ref mB, .ref mW, .ref mL, .int lS])), (mH, .inl (cI, 512, .inl fH)), (mL, .inl (cB, 16, .inl fL))]) (va_runS (As := [.long n.toInt64, .long 0, .long 511]) (rest := []) ⟨hx, hb, hml, hown, hts⟩ (q_in l D cI cL cB cZ cT _ (n.toInt64) 0 511) (va_cwS 3 hts gX8_written_X8_in rfl rfl rfl (by decide +kernel) ⟨Nat.le_of_ble_eq_true rfl, Nat.le_of_ble_eq_true rfl⟩) (kPreS hG hP hD [] rfl (by decide)) rfl rfl hl.1 rfl (lv_room (Nat.le_of_ble_eq_true rfl)) dX8_written_6 ⟨Nat.le_of_ble_eq_true rfl, Nat.le_of_ble_eq_true rfl⟩) hA hP hD hS [] [0, 1, 2] rfl rfl (by decide) (by decide) (fun r_1 u_r_1 H locs wr_1 hP hD hS => ?_)
  have hP : va_P D vwCl [(m0, .inr (8, [.ref mH, .int aM, .long aC, .int mM, .long mQ, .int oV, .int pL, .int lI, .int sW, .int dP, .int sT, .long aT, .int cH, .int iW, .ref mI, .ref mJ, .ref mS, .ref mD, .int iH, .int aE, .int mN, .long sZ, .ref mX, .int tS, .int tA, .int tW, .ref mA, .ref mB, .ref mW, .ref mL, .int lS])), (mH, .inl (cI, 512, .inl fH)), (mL, .inl (cB, 16, .inl fL))] H := hP
  have hD : va_D A [(m0, .inr (8, [.ref mH, .int aM, .long aC, .int mM, .long mQ, .int oV, .int pL, .int lI, .int sW, .int dP, .int sT, .long aT, .int cH, .int iW, .ref mI, .ref mJ, .ref mS, .ref mD, .int iH, .int aE, .int mN, .long sZ, .ref mX, .int tS, .int tA, .int tW, .ref mA, .ref mB, .ref mW, .ref mL, .int lS])), (mH, .inl (cI, 512, .inl fH)), (mL, .inl (cB, 16, .inl fL))] := hD
  try dsimp only at wr_1
  subst wr_1
  refine lv_if_eq (tgt := 16) hx hb dX8_written_9 (by decide) (fun c_9_1 => ?_) (fun c_9_1 => ?_)
  · have t_9_1 := c_9_1
    try simp only [kb_eq0, kb_ne0, lg_cmp_lt, lg_cmp_le, lg_cmp_gt, lg_cmp_ge, lg_cmp_eq] at t_9_1
    try simp only [Int32.lt_iff_toInt_lt, Int32.le_iff_toInt_le, ← Int32.toInt_inj, Int64.lt_iff_toInt_lt, Int64.le_iff_toInt_le, ← Int64.toInt_inj, Int32.toInt_toInt64, Int32.reduceToInt, Int64.reduceToInt] at t_9_1
    refine lv_iconst (v := (-1)) hx hb dX8_written_16 (by decide) ?_
    refine kIret (u := (lS, fL)) hx hb hr rfl hlocks hS dX8_written_17 ?_ (hP.sub [0, 1, 2] rfl) (hD.sub [0, 1, 2] (by decide) rfl)
    exact trivial
  · have t_9_1 := c_9_1
    try simp only [kb_eq0, kb_ne0, lg_cmp_lt, lg_cmp_le, lg_cmp_gt, lg_cmp_ge, lg_cmp_eq] at t_9_1
    try simp only [Int32.lt_iff_toInt_lt, Int32.le_iff_toInt_le, ← Int32.toInt_inj, Int64.lt_iff_toInt_lt, Int64.le_iff_toInt_le, ← Int64.toInt_inj, Int32.toInt_toInt64, Int32.reduceToInt, Int64.reduceToInt] at t_9_1
    refine lv_iload_n hx hb dX8_written_12 rfl (lv_at hl 2 rfl) ?_
    refine lv_if_ge (tgt := 18) hx hb dX8_written_13 (by decide) (fun c_13_2 => ?_) (fun c_13_2 => ?_)
    · have t_13_2 := c_13_2
      try simp only [kb_eq0, kb_ne0, lg_cmp_lt, lg_cmp_le, lg_cmp_gt, lg_cmp_ge, lg_cmp_eq] at t_13_2
      try simp only [Int32.lt_iff_toInt_lt, Int32.le_iff_toInt_le, ← Int32.toInt_inj, Int64.lt_iff_toInt_lt, Int64.le_iff_toInt_le, ← Int64.toInt_inj, Int32.toInt_toInt64, Int32.reduceToInt, Int64.reduceToInt] at t_13_2
      refine lv_aload_n hx hb dX8_written_18 rfl (lv_at hl 0 rfl) ?_
      refine lv_iconst (v := 0) hx hb dX8_written_19 (by decide) ?_
      refine va_put (D := D) (ci := 8) (v := .int 0) (ty := .int) (C := RX8) (T := TX8) (N := 31) hx hb hts iX8_written_X8 tyX8 tyX8_ok nmX8 hown hK hP hD hS 0 rfl rfl 30 (by decide) (hts (.fieldLink RX8 285 "TapeCalculatorModel" "lineSize" "I") (List.mem_of_getElem? (i := 2) rfl)) (fun _ h9 => h9) rfl (by decide +kernel) rfl rfl (Nat.le_of_ble_eq_true rfl) dX8_written_20 (fun H locs hP hD hS => ?_)
      have hP : va_P D vwCl [(m0, .inr (8, [.ref mH, .int aM, .long aC, .int mM, .long mQ, .int oV, .int pL, .int lI, .int sW, .int dP, .int sT, .long aT, .int cH, .int iW, .ref mI, .ref mJ, .ref mS, .ref mD, .int iH, .int aE, .int mN, .long sZ, .ref mX, .int tS, .int tA, .int tW, .ref mA, .ref mB, .ref mW, .ref mL, .int 0])), (mH, .inl (cI, 512, .inl fH)), (mL, .inl (cB, 16, .inl fL))] H := hP
      have hD : va_D A [(m0, .inr (8, [.ref mH, .int aM, .long aC, .int mM, .long mQ, .int oV, .int pL, .int lI, .int sW, .int dP, .int sT, .long aT, .int cH, .int iW, .ref mI, .ref mJ, .ref mS, .ref mD, .int iH, .int aE, .int mN, .long sZ, .ref mX, .int tS, .int tA, .int tW, .ref mA, .ref mB, .ref mW, .ref mL, .int 0])), (mH, .inl (cI, 512, .inl fH)), (mL, .inl (cB, 16, .inl fL))] := hD
      have hz0 : (0 : Int32).toInt = 0 := by decide
      have hm1 := k_and (x := fH n.toNatClampNeg >>> ((12 : Int32) &&& 31)) (m := 31) 5 (by decide) (by decide)
      have hm2 := k_and (x := fH n.toNatClampNeg) (m := 4095) 12 (by decide) (by decide)
      refine lv_aload_n hx hb dX8_written_23 rfl (lv_at hl 0 rfl) ?_
      refine lv_iload_n hx hb dX8_written_24 rfl (lv_at hl 1 rfl) ?_
      refine kCallVd (wr := [(mH, .inl (cI, 512, .inl fH))]) (va_runV (As := [.int n]) (rest := []) ⟨hx, hb, hml, hown, hts⟩ (q_write l D cI cL cB cZ cT _ m0 mH mI mJ mS mD mX mA mB mW mL aM aC mM mQ oV pL lI sW dP sT aT cH iW iH aE mN sZ tS tA tW 0 fL n (by omega) (by omega)) (cwV 1 hts gX8_written_X8_write rfl rfl rfl (by decide +kernel) ⟨Nat.le_of_ble_eq_true rfl, Nat.le_of_ble_eq_true rfl⟩) (kPreV hG hP hD [0, 2] rfl (by decide) 0 8 rfl rfl rfl) rfl rfl hl.1 rfl (lv_room (Nat.le_of_ble_eq_true rfl)) dX8_written_25 ⟨Nat.le_of_ble_eq_true rfl, Nat.le_of_ble_eq_true rfl⟩) hA hP hD hS [0, 2] [1] rfl rfl (by decide) (by decide) (fun _ u_r_4 H locs wr_4 hP hD hS => ?_)
      have hP : va_P D vwCl [(mH, .inl (cI, 512, .inl fH)), (m0, .inr (8, [.ref mH, .int aM, .long aC, .int mM, .long mQ, .int oV, .int pL, .int lI, .int sW, .int dP, .int sT, .long aT, .int cH, .int iW, .ref mI, .ref mJ, .ref mS, .ref mD, .int iH, .int aE, .int mN, .long sZ, .ref mX, .int tS, .int tA, .int tW, .ref mA, .ref mB, .ref mW, .ref mL, .int u_r_4.1])), (mL, .inl (cB, 16, .inl u_r_4.2))] H := hP
      have hD : va_D A [(mH, .inl (cI, 512, .inl fH)), (m0, .inr (8, [.ref mH, .int aM, .long aC, .int mM, .long mQ, .int oV, .int pL, .int lI, .int sW, .int dP, .int sT, .long aT, .int cH, .int iW, .ref mI, .ref mJ, .ref mS, .ref mD, .int iH, .int aE, .int mN, .long sZ, .ref mX, .int tS, .int tA, .int tW, .ref mA, .ref mB, .ref mW, .ref mL, .int u_r_4.1])), (mL, .inl (cB, 16, .inl u_r_4.2))] := hD
      try dsimp only at wr_4
      try simp only [Int32.reduceToInt, Int64.reduceToInt] at wr_4
      refine lv_aload_n hx hb dX8_written_28 rfl (lv_at hl 0 rfl) ?_
      refine va_get (D := D) (ci := 8) (v := .ref mL) (C := RX8) (T := TX8) (N := 31) hx hb hts iX8_written_X8 hown hK hP 1 rfl rfl 29 (by decide) (hts (.fieldLink RX8 40 "TapeCalculatorModel" "line" "[B") (List.mem_of_getElem? (i := 3) rfl)) (fun _ h9 => h9) rfl dX8_written_29 ?_
      refine lv_aload_n hx hb dX8_written_32 rfl (lv_at hl 0 rfl) ?_
      refine va_get (D := D) (ci := 8) (v := .int u_r_4.1) (C := RX8) (T := TX8) (N := 31) hx hb hts iX8_written_X8 hown hK hP 1 rfl rfl 30 (by decide) (hts (.fieldLink RX8 285 "TapeCalculatorModel" "lineSize" "I") (List.mem_of_getElem? (i := 2) rfl)) (fun _ h9 => h9) rfl dX8_written_33 ?_
      refine lv_bipush (v := 32) hx hb dX8_written_36 (by decide) ?_
      refine va_bast hx hb hK hP hD hS 2 2 rfl rfl (vp_in_iff.mpr (by omega)) dX8_written_38 (fun H locs hP hD hS => ?_)
      have hP : va_P D vwCl [(mH, .inl (cI, 512, .inl fH)), (m0, .inr (8, [.ref mH, .int aM, .long aC, .int mM, .long mQ, .int oV, .int pL, .int lI, .int sW, .int dP, .int sT, .long aT, .int cH, .int iW, .ref mI, .ref mJ, .ref mS, .ref mD, .int iH, .int aE, .int mN, .long sZ, .ref mX, .int tS, .int tA, .int tW, .ref mA, .ref mB, .ref mW, .ref mL, .int u_r_4.1])), (mL, .inl (cB, 16, .inl (upd u_r_4.2 u_r_4.1.toNatClampNeg (vp_nar .byte 32))))] H := hP
      have hD : va_D A [(mH, .inl (cI, 512, .inl fH)), (m0, .inr (8, [.ref mH, .int aM, .long aC, .int mM, .long mQ, .int oV, .int pL, .int lI, .int sW, .int dP, .int sT, .long aT, .int cH, .int iW, .ref mI, .ref mJ, .ref mS, .ref mD, .int iH, .int aE, .int mN, .long sZ, .ref mX, .int tS, .int tA, .int tW, .ref mA, .ref mB, .ref mW, .ref mL, .int u_r_4.1])), (mL, .inl (cB, 16, .inl (upd u_r_4.2 u_r_4.1.toNatClampNeg (vp_nar .byte 32))))] := hD
      refine lv_aload_n hx hb dX8_written_39 rfl (lv_at hl 0 rfl) ?_
      refine lv_dup hx hb dX8_written_40 rfl ?_
      refine va_get (D := D) (ci := 8) (v := .int u_r_4.1) (C := RX8) (T := TX8) (N := 31) hx hb hts iX8_written_X8 hown hK hP 1 rfl rfl 30 (by decide) (hts (.fieldLink RX8 285 "TapeCalculatorModel" "lineSize" "I") (List.mem_of_getElem? (i := 2) rfl)) (fun _ h9 => h9) rfl dX8_written_41 ?_
      refine lv_iconst (v := 1) hx hb dX8_written_44 (by decide) ?_
      refine lv_iadd hx hb dX8_written_45 ?_
      refine lv_topi (fun x_5 ex_5 => ?_)
      refine va_put (D := D) (ci := 8) (v := .int x_5) (ty := .int) (C := RX8) (T := TX8) (N := 31) hx hb hts iX8_written_X8 tyX8 tyX8_ok nmX8 hown hK hP hD hS 1 rfl rfl 30 (by decide) (hts (.fieldLink RX8 285 "TapeCalculatorModel" "lineSize" "I") (List.mem_of_getElem? (i := 2) rfl)) (fun _ h9 => h9) rfl (by decide +kernel) rfl rfl (Nat.le_of_ble_eq_true rfl) dX8_written_46 (fun H locs hP hD hS => ?_)
      have hP : va_P D vwCl [(mH, .inl (cI, 512, .inl fH)), (m0, .inr (8, [.ref mH, .int aM, .long aC, .int mM, .long mQ, .int oV, .int pL, .int lI, .int sW, .int dP, .int sT, .long aT, .int cH, .int iW, .ref mI, .ref mJ, .ref mS, .ref mD, .int iH, .int aE, .int mN, .long sZ, .ref mX, .int tS, .int tA, .int tW, .ref mA, .ref mB, .ref mW, .ref mL, .int x_5])), (mL, .inl (cB, 16, .inl (upd u_r_4.2 u_r_4.1.toNatClampNeg (vp_nar .byte 32))))] H := hP
      have hD : va_D A [(mH, .inl (cI, 512, .inl fH)), (m0, .inr (8, [.ref mH, .int aM, .long aC, .int mM, .long mQ, .int oV, .int pL, .int lI, .int sW, .int dP, .int sT, .long aT, .int cH, .int iW, .ref mI, .ref mJ, .ref mS, .ref mD, .int iH, .int aE, .int mN, .long sZ, .ref mX, .int tS, .int tA, .int tW, .ref mA, .ref mB, .ref mW, .ref mL, .int x_5])), (mL, .inl (cB, 16, .inl (upd u_r_4.2 u_r_4.1.toNatClampNeg (vp_nar .byte 32))))] := hD
      have hdx_5 := k_addg (a := u_r_4.1) (b := 1) (by omega) (by decide)
      simp only [Int32.reduceToInt] at hdx_5
      rw [← ex_5] at hdx_5
      refine lv_aload_n hx hb dX8_written_49 rfl (lv_at hl 0 rfl) ?_
      refine lv_aload_n hx hb dX8_written_50 rfl (lv_at hl 0 rfl) ?_
      refine va_get (D := D) (ci := 8) (v := .ref mH) (C := RX8) (T := TX8) (N := 31) hx hb hts iX8_written_X8 hown hK hP 1 rfl rfl 0 (by decide) (hts (.fieldLink RX8 7 "TapeCalculatorModel" "half" "[I") (List.mem_of_getElem? (i := 4) rfl)) (fun _ h9 => h9) rfl dX8_written_51 ?_
      refine lv_iload_n hx hb dX8_written_54 rfl (lv_at hl 1 rfl) ?_
      refine va_iald hx hb hK hP 0 0 rfl rfl (vp_in_iff.mpr (by omega)) dX8_written_55 ?_
      refine lv_bipush (v := 12) hx hb dX8_written_56 (by decide) ?_
      refine lv_ishr hx hb dX8_written_58 ?_
      refine lv_bipush (v := 31) hx hb dX8_written_59 (by decide) ?_
      refine lv_iand hx hb dX8_written_61 ?_
      refine kCallVd (wr := [(mH, .inl (cI, 512, .inl fH))]) (va_runV (As := [.int (((fH n.toNatClampNeg) >>> (12 &&& 31)) &&& 31)]) (rest := []) ⟨hx, hb, hml, hown, hts⟩ (q_write l D cI cL cB cZ cT _ m0 mH mI mJ mS mD mX mA mB mW mL aM aC mM mQ oV pL lI sW dP sT aT cH iW iH aE mN sZ tS tA tW x_5 (upd u_r_4.2 u_r_4.1.toNatClampNeg (vp_nar .byte 32)) (((fH n.toNatClampNeg) >>> (12 &&& 31)) &&& 31) (by omega) (by omega)) (cwV 1 hts gX8_written_X8_write rfl rfl rfl (by decide +kernel) ⟨Nat.le_of_ble_eq_true rfl, Nat.le_of_ble_eq_true rfl⟩) (kPreV hG hP hD [1, 2] rfl (by decide) 0 8 rfl rfl rfl) rfl rfl hl.1 rfl (lv_room (Nat.le_of_ble_eq_true rfl)) dX8_written_62 ⟨Nat.le_of_ble_eq_true rfl, Nat.le_of_ble_eq_true rfl⟩) hA hP hD hS [1, 2] [0] rfl rfl (by decide) (by decide) (fun _ u_r_6 H locs wr_6 hP hD hS => ?_)
      have hP : va_P D vwCl [(mH, .inl (cI, 512, .inl fH)), (m0, .inr (8, [.ref mH, .int aM, .long aC, .int mM, .long mQ, .int oV, .int pL, .int lI, .int sW, .int dP, .int sT, .long aT, .int cH, .int iW, .ref mI, .ref mJ, .ref mS, .ref mD, .int iH, .int aE, .int mN, .long sZ, .ref mX, .int tS, .int tA, .int tW, .ref mA, .ref mB, .ref mW, .ref mL, .int u_r_6.1])), (mL, .inl (cB, 16, .inl u_r_6.2))] H := hP
      have hD : va_D A [(mH, .inl (cI, 512, .inl fH)), (m0, .inr (8, [.ref mH, .int aM, .long aC, .int mM, .long mQ, .int oV, .int pL, .int lI, .int sW, .int dP, .int sT, .long aT, .int cH, .int iW, .ref mI, .ref mJ, .ref mS, .ref mD, .int iH, .int aE, .int mN, .long sZ, .ref mX, .int tS, .int tA, .int tW, .ref mA, .ref mB, .ref mW, .ref mL, .int u_r_6.1])), (mL, .inl (cB, 16, .inl u_r_6.2))] := hD
      try dsimp only at wr_6
      try simp only [Int32.reduceToInt, Int64.reduceToInt] at wr_6
      refine lv_aload_n hx hb dX8_written_65 rfl (lv_at hl 0 rfl) ?_
      refine va_get (D := D) (ci := 8) (v := .ref mL) (C := RX8) (T := TX8) (N := 31) hx hb hts iX8_written_X8 hown hK hP 1 rfl rfl 29 (by decide) (hts (.fieldLink RX8 40 "TapeCalculatorModel" "line" "[B") (List.mem_of_getElem? (i := 3) rfl)) (fun _ h9 => h9) rfl dX8_written_66 ?_
      refine lv_aload_n hx hb dX8_written_69 rfl (lv_at hl 0 rfl) ?_
      refine va_get (D := D) (ci := 8) (v := .int u_r_6.1) (C := RX8) (T := TX8) (N := 31) hx hb hts iX8_written_X8 hown hK hP 1 rfl rfl 30 (by decide) (hts (.fieldLink RX8 285 "TapeCalculatorModel" "lineSize" "I") (List.mem_of_getElem? (i := 2) rfl)) (fun _ h9 => h9) rfl dX8_written_70 ?_
      refine lv_aload_n hx hb dX8_written_73 rfl (lv_at hl 0 rfl) ?_
      refine va_get (D := D) (ci := 8) (v := .ref mH) (C := RX8) (T := TX8) (N := 31) hx hb hts iX8_written_X8 hown hK hP 1 rfl rfl 0 (by decide) (hts (.fieldLink RX8 7 "TapeCalculatorModel" "half" "[I") (List.mem_of_getElem? (i := 4) rfl)) (fun _ h9 => h9) rfl dX8_written_74 ?_
      refine lv_iload_n hx hb dX8_written_77 rfl (lv_at hl 1 rfl) ?_
      refine va_iald hx hb hK hP 0 0 rfl rfl (vp_in_iff.mpr (by omega)) dX8_written_78 ?_
      refine lv_bipush (v := 17) hx hb dX8_written_79 (by decide) ?_
      refine lv_ishr hx hb dX8_written_81 ?_
      refine lv_iconst (v := 1) hx hb dX8_written_82 (by decide) ?_
      refine lv_iand hx hb dX8_written_83 ?_
      refine lv_iconst (v := 1) hx hb dX8_written_84 (by decide) ?_
      refine lv_icmp_ne (tgt := 93) hx hb dX8_written_85 (by decide) (fun c_85_6 => ?_) (fun c_85_6 => ?_)
      · have t_85_6 := c_85_6
        try simp only [kb_eq0, kb_ne0, lg_cmp_lt, lg_cmp_le, lg_cmp_gt, lg_cmp_ge, lg_cmp_eq] at t_85_6
        try simp only [Int32.lt_iff_toInt_lt, Int32.le_iff_toInt_le, ← Int32.toInt_inj, Int64.lt_iff_toInt_lt, Int64.le_iff_toInt_le, ← Int64.toInt_inj, Int32.toInt_toInt64, Int32.reduceToInt, Int64.reduceToInt] at t_85_6
        refine lv_bipush (v := 43) hx hb dX8_written_93 (by decide) ?_
        refine lv_i2b hx hb dX8_written_95 rfl ?_
        refine lv_topi (fun x_8 ex_8 => ?_)
        obtain rfl : x_8 = 43 := ex_8.trans (by decide)
        refine va_bast hx hb hK hP hD hS 2 2 rfl rfl (vp_in_iff.mpr (by omega)) dX8_written_96 (fun H locs hP hD hS => ?_)
        have hP : va_P D vwCl [(mH, .inl (cI, 512, .inl fH)), (m0, .inr (8, [.ref mH, .int aM, .long aC, .int mM, .long mQ, .int oV, .int pL, .int lI, .int sW, .int dP, .int sT, .long aT, .int cH, .int iW, .ref mI, .ref mJ, .ref mS, .ref mD, .int iH, .int aE, .int mN, .long sZ, .ref mX, .int tS, .int tA, .int tW, .ref mA, .ref mB, .ref mW, .ref mL, .int u_r_6.1])), (mL, .inl (cB, 16, .inl (upd u_r_6.2 u_r_6.1.toNatClampNeg (vp_nar .byte 43))))] H := hP
        have hD : va_D A [(mH, .inl (cI, 512, .inl fH)), (m0, .inr (8, [.ref mH, .int aM, .long aC, .int mM, .long mQ, .int oV, .int pL, .int lI, .int sW, .int dP, .int sT, .long aT, .int cH, .int iW, .ref mI, .ref mJ, .ref mS, .ref mD, .int iH, .int aE, .int mN, .long sZ, .ref mX, .int tS, .int tA, .int tW, .ref mA, .ref mB, .ref mW, .ref mL, .int u_r_6.1])), (mL, .inl (cB, 16, .inl (upd u_r_6.2 u_r_6.1.toNatClampNeg (vp_nar .byte 43))))] := hD
        refine lv_aload_n hx hb dX8_written_97 rfl (lv_at hl 0 rfl) ?_
        refine lv_dup hx hb dX8_written_98 rfl ?_
        refine va_get (D := D) (ci := 8) (v := .int u_r_6.1) (C := RX8) (T := TX8) (N := 31) hx hb hts iX8_written_X8 hown hK hP 1 rfl rfl 30 (by decide) (hts (.fieldLink RX8 285 "TapeCalculatorModel" "lineSize" "I") (List.mem_of_getElem? (i := 2) rfl)) (fun _ h9 => h9) rfl dX8_written_99 ?_
        refine lv_iconst (v := 1) hx hb dX8_written_102 (by decide) ?_
        refine lv_iadd hx hb dX8_written_103 ?_
        refine lv_topi (fun x_9 ex_9 => ?_)
        refine va_put (D := D) (ci := 8) (v := .int x_9) (ty := .int) (C := RX8) (T := TX8) (N := 31) hx hb hts iX8_written_X8 tyX8 tyX8_ok nmX8 hown hK hP hD hS 1 rfl rfl 30 (by decide) (hts (.fieldLink RX8 285 "TapeCalculatorModel" "lineSize" "I") (List.mem_of_getElem? (i := 2) rfl)) (fun _ h9 => h9) rfl (by decide +kernel) rfl rfl (Nat.le_of_ble_eq_true rfl) dX8_written_104 (fun H locs hP hD hS => ?_)
        have hP : va_P D vwCl [(mH, .inl (cI, 512, .inl fH)), (m0, .inr (8, [.ref mH, .int aM, .long aC, .int mM, .long mQ, .int oV, .int pL, .int lI, .int sW, .int dP, .int sT, .long aT, .int cH, .int iW, .ref mI, .ref mJ, .ref mS, .ref mD, .int iH, .int aE, .int mN, .long sZ, .ref mX, .int tS, .int tA, .int tW, .ref mA, .ref mB, .ref mW, .ref mL, .int x_9])), (mL, .inl (cB, 16, .inl (upd u_r_6.2 u_r_6.1.toNatClampNeg (vp_nar .byte 43))))] H := hP
        have hD : va_D A [(mH, .inl (cI, 512, .inl fH)), (m0, .inr (8, [.ref mH, .int aM, .long aC, .int mM, .long mQ, .int oV, .int pL, .int lI, .int sW, .int dP, .int sT, .long aT, .int cH, .int iW, .ref mI, .ref mJ, .ref mS, .ref mD, .int iH, .int aE, .int mN, .long sZ, .ref mX, .int tS, .int tA, .int tW, .ref mA, .ref mB, .ref mW, .ref mL, .int x_9])), (mL, .inl (cB, 16, .inl (upd u_r_6.2 u_r_6.1.toNatClampNeg (vp_nar .byte 43))))] := hD
        have hdx_9 := k_addg (a := u_r_6.1) (b := 1) (by omega) (by decide)
        simp only [Int32.reduceToInt] at hdx_9
        rw [← ex_9] at hdx_9
        refine lv_aload_n hx hb dX8_written_107 rfl (lv_at hl 0 rfl) ?_
        refine lv_aload_n hx hb dX8_written_108 rfl (lv_at hl 0 rfl) ?_
        refine va_get (D := D) (ci := 8) (v := .ref mH) (C := RX8) (T := TX8) (N := 31) hx hb hts iX8_written_X8 hown hK hP 1 rfl rfl 0 (by decide) (hts (.fieldLink RX8 7 "TapeCalculatorModel" "half" "[I") (List.mem_of_getElem? (i := 4) rfl)) (fun _ h9 => h9) rfl dX8_written_109 ?_
        refine lv_iload_n hx hb dX8_written_112 rfl (lv_at hl 1 rfl) ?_
        refine va_iald hx hb hK hP 0 0 rfl rfl (vp_in_iff.mpr (by omega)) dX8_written_113 ?_
        refine lv_sipush (v := 4095) hx hb dX8_written_114 (by decide) ?_
        refine lv_iand hx hb dX8_written_117 ?_
        refine kCallVd (wr := [(mH, .inl (cI, 512, .inl fH))]) (va_runV (As := [.int ((fH n.toNatClampNeg) &&& 4095)]) (rest := []) ⟨hx, hb, hml, hown, hts⟩ (q_write l D cI cL cB cZ cT _ m0 mH mI mJ mS mD mX mA mB mW mL aM aC mM mQ oV pL lI sW dP sT aT cH iW iH aE mN sZ tS tA tW x_9 (upd u_r_6.2 u_r_6.1.toNatClampNeg (vp_nar .byte 43)) ((fH n.toNatClampNeg) &&& 4095) (by omega) (by omega)) (cwV 1 hts gX8_written_X8_write rfl rfl rfl (by decide +kernel) ⟨Nat.le_of_ble_eq_true rfl, Nat.le_of_ble_eq_true rfl⟩) (kPreV hG hP hD [1, 2] rfl (by decide) 0 8 rfl rfl rfl) rfl rfl hl.1 rfl (lv_room (Nat.le_of_ble_eq_true rfl)) dX8_written_118 ⟨Nat.le_of_ble_eq_true rfl, Nat.le_of_ble_eq_true rfl⟩) hA hP hD hS [1, 2] [0] rfl rfl (by decide) (by decide) (fun _ u_r_10 H locs wr_10 hP hD hS => ?_)
        have hP : va_P D vwCl [(mH, .inl (cI, 512, .inl fH)), (m0, .inr (8, [.ref mH, .int aM, .long aC, .int mM, .long mQ, .int oV, .int pL, .int lI, .int sW, .int dP, .int sT, .long aT, .int cH, .int iW, .ref mI, .ref mJ, .ref mS, .ref mD, .int iH, .int aE, .int mN, .long sZ, .ref mX, .int tS, .int tA, .int tW, .ref mA, .ref mB, .ref mW, .ref mL, .int u_r_10.1])), (mL, .inl (cB, 16, .inl u_r_10.2))] H := hP
        have hD : va_D A [(mH, .inl (cI, 512, .inl fH)), (m0, .inr (8, [.ref mH, .int aM, .long aC, .int mM, .long mQ, .int oV, .int pL, .int lI, .int sW, .int dP, .int sT, .long aT, .int cH, .int iW, .ref mI, .ref mJ, .ref mS, .ref mD, .int iH, .int aE, .int mN, .long sZ, .ref mX, .int tS, .int tA, .int tW, .ref mA, .ref mB, .ref mW, .ref mL, .int u_r_10.1])), (mL, .inl (cB, 16, .inl u_r_10.2))] := hD
        try dsimp only at wr_10
        try simp only [Int32.reduceToInt, Int64.reduceToInt] at wr_10
        refine lv_iload_n hx hb dX8_written_121 rfl (lv_at hl 2 rfl) ?_
        refine lv_aload_n hx hb dX8_written_122 rfl (lv_at hl 0 rfl) ?_
        refine va_get (D := D) (ci := 8) (v := .int u_r_10.1) (C := RX8) (T := TX8) (N := 31) hx hb hts iX8_written_X8 hown hK hP 1 rfl rfl 30 (by decide) (hts (.fieldLink RX8 285 "TapeCalculatorModel" "lineSize" "I") (List.mem_of_getElem? (i := 2) rfl)) (fun _ h9 => h9) rfl dX8_written_123 ?_
        refine lv_icmp_ge (tgt := 138) hx hb dX8_written_126 (by decide) (fun c_126_10 => ?_) (fun c_126_10 => ?_)
        · have t_126_10 := c_126_10
          try simp only [kb_eq0, kb_ne0, lg_cmp_lt, lg_cmp_le, lg_cmp_gt, lg_cmp_ge, lg_cmp_eq] at t_126_10
          try simp only [Int32.lt_iff_toInt_lt, Int32.le_iff_toInt_le, ← Int32.toInt_inj, Int64.lt_iff_toInt_lt, Int64.le_iff_toInt_le, ← Int64.toInt_inj, Int32.toInt_toInt64, Int32.reduceToInt, Int64.reduceToInt] at t_126_10
          refine lv_bipush (v := (-9)) hx hb dX8_written_138 (by decide) ?_
          refine kIret (u := (u_r_10.1, u_r_10.2)) hx hb hr rfl hlocks hS dX8_written_140 ?_ (hP.sub [1, 0, 2] rfl) (hD.sub [1, 0, 2] (by decide) rfl)
          exact trivial
        · have t_126_10 := c_126_10
          try simp only [kb_eq0, kb_ne0, lg_cmp_lt, lg_cmp_le, lg_cmp_gt, lg_cmp_ge, lg_cmp_eq] at t_126_10
          try simp only [Int32.lt_iff_toInt_lt, Int32.le_iff_toInt_le, ← Int32.toInt_inj, Int64.lt_iff_toInt_lt, Int64.le_iff_toInt_le, ← Int64.toInt_inj, Int32.toInt_toInt64, Int32.reduceToInt, Int64.reduceToInt] at t_126_10
          refine lv_aload_n hx hb dX8_written_129 rfl (lv_at hl 0 rfl) ?_
          refine va_get (D := D) (ci := 8) (v := .ref mL) (C := RX8) (T := TX8) (N := 31) hx hb hts iX8_written_X8 hown hK hP 1 rfl rfl 29 (by decide) (hts (.fieldLink RX8 40 "TapeCalculatorModel" "line" "[B") (List.mem_of_getElem? (i := 3) rfl)) (fun _ h9 => h9) rfl dX8_written_130 ?_
          refine lv_iload_n hx hb dX8_written_133 rfl (lv_at hl 2 rfl) ?_
          refine va_bald hx hb hK hP 2 2 rfl rfl (vp_in_iff.mpr (by omega)) dX8_written_134 ?_
          refine lv_goto (tgt := 140) hx hb dX8_written_135 (by decide) ?_
          refine kIret (u := (u_r_10.1, u_r_10.2)) hx hb hr rfl hlocks hS dX8_written_140 ?_ (hP.sub [1, 0, 2] rfl) (hD.sub [1, 0, 2] (by decide) rfl)
          exact trivial
      · have t_85_6 := c_85_6
        try simp only [kb_eq0, kb_ne0, lg_cmp_lt, lg_cmp_le, lg_cmp_gt, lg_cmp_ge, lg_cmp_eq] at t_85_6
        try simp only [Int32.lt_iff_toInt_lt, Int32.le_iff_toInt_le, ← Int32.toInt_inj, Int64.lt_iff_toInt_lt, Int64.le_iff_toInt_le, ← Int64.toInt_inj, Int32.toInt_toInt64, Int32.reduceToInt, Int64.reduceToInt] at t_85_6
        refine lv_bipush (v := 45) hx hb dX8_written_88 (by decide) ?_
        refine lv_goto (tgt := 95) hx hb dX8_written_90 (by decide) ?_
        refine lv_i2b hx hb dX8_written_95 rfl ?_
        refine lv_topi (fun x_12 ex_12 => ?_)
        obtain rfl : x_12 = 45 := ex_12.trans (by decide)
        refine va_bast hx hb hK hP hD hS 2 2 rfl rfl (vp_in_iff.mpr (by omega)) dX8_written_96 (fun H locs hP hD hS => ?_)
        have hP : va_P D vwCl [(mH, .inl (cI, 512, .inl fH)), (m0, .inr (8, [.ref mH, .int aM, .long aC, .int mM, .long mQ, .int oV, .int pL, .int lI, .int sW, .int dP, .int sT, .long aT, .int cH, .int iW, .ref mI, .ref mJ, .ref mS, .ref mD, .int iH, .int aE, .int mN, .long sZ, .ref mX, .int tS, .int tA, .int tW, .ref mA, .ref mB, .ref mW, .ref mL, .int u_r_6.1])), (mL, .inl (cB, 16, .inl (upd u_r_6.2 u_r_6.1.toNatClampNeg (vp_nar .byte 45))))] H := hP
        have hD : va_D A [(mH, .inl (cI, 512, .inl fH)), (m0, .inr (8, [.ref mH, .int aM, .long aC, .int mM, .long mQ, .int oV, .int pL, .int lI, .int sW, .int dP, .int sT, .long aT, .int cH, .int iW, .ref mI, .ref mJ, .ref mS, .ref mD, .int iH, .int aE, .int mN, .long sZ, .ref mX, .int tS, .int tA, .int tW, .ref mA, .ref mB, .ref mW, .ref mL, .int u_r_6.1])), (mL, .inl (cB, 16, .inl (upd u_r_6.2 u_r_6.1.toNatClampNeg (vp_nar .byte 45))))] := hD
        refine lv_aload_n hx hb dX8_written_97 rfl (lv_at hl 0 rfl) ?_
        refine lv_dup hx hb dX8_written_98 rfl ?_
        refine va_get (D := D) (ci := 8) (v := .int u_r_6.1) (C := RX8) (T := TX8) (N := 31) hx hb hts iX8_written_X8 hown hK hP 1 rfl rfl 30 (by decide) (hts (.fieldLink RX8 285 "TapeCalculatorModel" "lineSize" "I") (List.mem_of_getElem? (i := 2) rfl)) (fun _ h9 => h9) rfl dX8_written_99 ?_
        refine lv_iconst (v := 1) hx hb dX8_written_102 (by decide) ?_
        refine lv_iadd hx hb dX8_written_103 ?_
        refine lv_topi (fun x_13 ex_13 => ?_)
        refine va_put (D := D) (ci := 8) (v := .int x_13) (ty := .int) (C := RX8) (T := TX8) (N := 31) hx hb hts iX8_written_X8 tyX8 tyX8_ok nmX8 hown hK hP hD hS 1 rfl rfl 30 (by decide) (hts (.fieldLink RX8 285 "TapeCalculatorModel" "lineSize" "I") (List.mem_of_getElem? (i := 2) rfl)) (fun _ h9 => h9) rfl (by decide +kernel) rfl rfl (Nat.le_of_ble_eq_true rfl) dX8_written_104 (fun H locs hP hD hS => ?_)
        have hP : va_P D vwCl [(mH, .inl (cI, 512, .inl fH)), (m0, .inr (8, [.ref mH, .int aM, .long aC, .int mM, .long mQ, .int oV, .int pL, .int lI, .int sW, .int dP, .int sT, .long aT, .int cH, .int iW, .ref mI, .ref mJ, .ref mS, .ref mD, .int iH, .int aE, .int mN, .long sZ, .ref mX, .int tS, .int tA, .int tW, .ref mA, .ref mB, .ref mW, .ref mL, .int x_13])), (mL, .inl (cB, 16, .inl (upd u_r_6.2 u_r_6.1.toNatClampNeg (vp_nar .byte 45))))] H := hP
        have hD : va_D A [(mH, .inl (cI, 512, .inl fH)), (m0, .inr (8, [.ref mH, .int aM, .long aC, .int mM, .long mQ, .int oV, .int pL, .int lI, .int sW, .int dP, .int sT, .long aT, .int cH, .int iW, .ref mI, .ref mJ, .ref mS, .ref mD, .int iH, .int aE, .int mN, .long sZ, .ref mX, .int tS, .int tA, .int tW, .ref mA, .ref mB, .ref mW, .ref mL, .int x_13])), (mL, .inl (cB, 16, .inl (upd u_r_6.2 u_r_6.1.toNatClampNeg (vp_nar .byte 45))))] := hD
        have hdx_13 := k_addg (a := u_r_6.1) (b := 1) (by omega) (by decide)
        simp only [Int32.reduceToInt] at hdx_13
        rw [← ex_13] at hdx_13
        refine lv_aload_n hx hb dX8_written_107 rfl (lv_at hl 0 rfl) ?_
        refine lv_aload_n hx hb dX8_written_108 rfl (lv_at hl 0 rfl) ?_
        refine va_get (D := D) (ci := 8) (v := .ref mH) (C := RX8) (T := TX8) (N := 31) hx hb hts iX8_written_X8 hown hK hP 1 rfl rfl 0 (by decide) (hts (.fieldLink RX8 7 "TapeCalculatorModel" "half" "[I") (List.mem_of_getElem? (i := 4) rfl)) (fun _ h9 => h9) rfl dX8_written_109 ?_
        refine lv_iload_n hx hb dX8_written_112 rfl (lv_at hl 1 rfl) ?_
        refine va_iald hx hb hK hP 0 0 rfl rfl (vp_in_iff.mpr (by omega)) dX8_written_113 ?_
        refine lv_sipush (v := 4095) hx hb dX8_written_114 (by decide) ?_
        refine lv_iand hx hb dX8_written_117 ?_
        refine kCallVd (wr := [(mH, .inl (cI, 512, .inl fH))]) (va_runV (As := [.int ((fH n.toNatClampNeg) &&& 4095)]) (rest := []) ⟨hx, hb, hml, hown, hts⟩ (q_write l D cI cL cB cZ cT _ m0 mH mI mJ mS mD mX mA mB mW mL aM aC mM mQ oV pL lI sW dP sT aT cH iW iH aE mN sZ tS tA tW x_13 (upd u_r_6.2 u_r_6.1.toNatClampNeg (vp_nar .byte 45)) ((fH n.toNatClampNeg) &&& 4095) (by omega) (by omega)) (cwV 1 hts gX8_written_X8_write rfl rfl rfl (by decide +kernel) ⟨Nat.le_of_ble_eq_true rfl, Nat.le_of_ble_eq_true rfl⟩) (kPreV hG hP hD [1, 2] rfl (by decide) 0 8 rfl rfl rfl) rfl rfl hl.1 rfl (lv_room (Nat.le_of_ble_eq_true rfl)) dX8_written_118 ⟨Nat.le_of_ble_eq_true rfl, Nat.le_of_ble_eq_true rfl⟩) hA hP hD hS [1, 2] [0] rfl rfl (by decide) (by decide) (fun _ u_r_14 H locs wr_14 hP hD hS => ?_)
        have hP : va_P D vwCl [(mH, .inl (cI, 512, .inl fH)), (m0, .inr (8, [.ref mH, .int aM, .long aC, .int mM, .long mQ, .int oV, .int pL, .int lI, .int sW, .int dP, .int sT, .long aT, .int cH, .int iW, .ref mI, .ref mJ, .ref mS, .ref mD, .int iH, .int aE, .int mN, .long sZ, .ref mX, .int tS, .int tA, .int tW, .ref mA, .ref mB, .ref mW, .ref mL, .int u_r_14.1])), (mL, .inl (cB, 16, .inl u_r_14.2))] H := hP
        have hD : va_D A [(mH, .inl (cI, 512, .inl fH)), (m0, .inr (8, [.ref mH, .int aM, .long aC, .int mM, .long mQ, .int oV, .int pL, .int lI, .int sW, .int dP, .int sT, .long aT, .int cH, .int iW, .ref mI, .ref mJ, .ref mS, .ref mD, .int iH, .int aE, .int mN, .long sZ, .ref mX, .int tS, .int tA, .int tW, .ref mA, .ref mB, .ref mW, .ref mL, .int u_r_14.1])), (mL, .inl (cB, 16, .inl u_r_14.2))] := hD
        try dsimp only at wr_14
        try simp only [Int32.reduceToInt, Int64.reduceToInt] at wr_14
        refine lv_iload_n hx hb dX8_written_121 rfl (lv_at hl 2 rfl) ?_
        refine lv_aload_n hx hb dX8_written_122 rfl (lv_at hl 0 rfl) ?_
        refine va_get (D := D) (ci := 8) (v := .int u_r_14.1) (C := RX8) (T := TX8) (N := 31) hx hb hts iX8_written_X8 hown hK hP 1 rfl rfl 30 (by decide) (hts (.fieldLink RX8 285 "TapeCalculatorModel" "lineSize" "I") (List.mem_of_getElem? (i := 2) rfl)) (fun _ h9 => h9) rfl dX8_written_123 ?_
        refine lv_icmp_ge (tgt := 138) hx hb dX8_written_126 (by decide) (fun c_126_14 => ?_) (fun c_126_14 => ?_)
        · have t_126_14 := c_126_14
          try simp only [kb_eq0, kb_ne0, lg_cmp_lt, lg_cmp_le, lg_cmp_gt, lg_cmp_ge, lg_cmp_eq] at t_126_14
          try simp only [Int32.lt_iff_toInt_lt, Int32.le_iff_toInt_le, ← Int32.toInt_inj, Int64.lt_iff_toInt_lt, Int64.le_iff_toInt_le, ← Int64.toInt_inj, Int32.toInt_toInt64, Int32.reduceToInt, Int64.reduceToInt] at t_126_14
          refine lv_bipush (v := (-9)) hx hb dX8_written_138 (by decide) ?_
          refine kIret (u := (u_r_14.1, u_r_14.2)) hx hb hr rfl hlocks hS dX8_written_140 ?_ (hP.sub [1, 0, 2] rfl) (hD.sub [1, 0, 2] (by decide) rfl)
          exact trivial
        · have t_126_14 := c_126_14
          try simp only [kb_eq0, kb_ne0, lg_cmp_lt, lg_cmp_le, lg_cmp_gt, lg_cmp_ge, lg_cmp_eq] at t_126_14
          try simp only [Int32.lt_iff_toInt_lt, Int32.le_iff_toInt_le, ← Int32.toInt_inj, Int64.lt_iff_toInt_lt, Int64.le_iff_toInt_le, ← Int64.toInt_inj, Int32.toInt_toInt64, Int32.reduceToInt, Int64.reduceToInt] at t_126_14
          refine lv_aload_n hx hb dX8_written_129 rfl (lv_at hl 0 rfl) ?_
          refine va_get (D := D) (ci := 8) (v := .ref mL) (C := RX8) (T := TX8) (N := 31) hx hb hts iX8_written_X8 hown hK hP 1 rfl rfl 29 (by decide) (hts (.fieldLink RX8 40 "TapeCalculatorModel" "line" "[B") (List.mem_of_getElem? (i := 3) rfl)) (fun _ h9 => h9) rfl dX8_written_130 ?_
          refine lv_iload_n hx hb dX8_written_133 rfl (lv_at hl 2 rfl) ?_
          refine va_bald hx hb hK hP 2 2 rfl rfl (vp_in_iff.mpr (by omega)) dX8_written_134 ?_
          refine lv_goto (tgt := 140) hx hb dX8_written_135 (by decide) ?_
          refine kIret (u := (u_r_14.1, u_r_14.2)) hx hb hr rfl hlocks hS dX8_written_140 ?_ (hP.sub [1, 0, 2] rfl) (hD.sub [1, 0, 2] (by decide) rfl)
          exact trivial
    · have t_13_2 := c_13_2
      try simp only [kb_eq0, kb_ne0, lg_cmp_lt, lg_cmp_le, lg_cmp_gt, lg_cmp_ge, lg_cmp_eq] at t_13_2
      try simp only [Int32.lt_iff_toInt_lt, Int32.le_iff_toInt_le, ← Int32.toInt_inj, Int64.lt_iff_toInt_lt, Int64.le_iff_toInt_le, ← Int64.toInt_inj, Int32.toInt_toInt64, Int32.reduceToInt, Int64.reduceToInt] at t_13_2
      refine lv_iconst (v := (-1)) hx hb dX8_written_16 (by decide) ?_
      refine kIret (u := (lS, fL)) hx hb hr rfl hlocks hS dX8_written_17 ?_ (hP.sub [0, 1, 2] rfl) (hD.sub [0, 1, 2] (by decide) rfl)
      exact trivial
set_option maxRecDepth 100000 in
theorem iX8_digest_X8 : ∀ w ∈ wsX80, w ∈ wsX8_digest := fun w h => (goodIn_r (big := wsX8_digest) wsX80 [24, 25, 26, 27, 28, 29, 30, 31, 32, 33, 34, 35, 36, 37, 38, 39, 40, 41, 42, 43, 44, 45, 46, 47, 48, 49, 50, 51, 52, 53, 54] rfl (by decide +kernel) w h).1
set_option maxRecDepth 100000 in
set_option maxHeartbeats 4000000 in
theorem q_digest (l : Launch) (D : va_G) (cI cL cB cZ cT : ClassId) (sz : Nat) (m0 mH mI mJ mS mD mX mA mB mW mL : Nat) (aM : Int32) (aC : Int64) (mM : Int32) (mQ : Int64) (oV pL lI sW dP sT : Int32) (aT : Int64) (cH iW iH aE mN : Int32) (sZ : Int64) (tS tA tW lS : Int32) (fH : Nat → Int32) (fI : Nat → Int64) (j0 j1 j2 j3 : Int32) (s0 s1 s2 s3 : Int32) (fD : Nat → Int64) (ht0 : jT_ s0 j0) (ht1 : jT_ s1 j1) (ht2 : jT_ s2 j2) (ht3 : jT_ s3 j3) : kM (S := Unit) l yX8_digest wsX8_digest ({ frames := 1, cells := 0, slots := 0, locals := 21 }) D (kT cI cL cB cZ cT) [.ref m0] [(m0, .inr (8, [.ref mH, .int aM, .long aC, .int mM, .long mQ, .int oV, .int pL, .int lI, .int sW, .int dP, .int sT, .long aT, .int cH, .int iW, .ref mI, .ref mJ, .ref mS, .ref mD, .int iH, .int aE, .int mN, .long sZ, .ref mX, .int tS, .int tA, .int tW, .ref mA, .ref mB, .ref mW, .ref mL, .int lS])), (mH, .inl (cI, 512, .inl fH)), (mI, .inl (cL, 1200, .inr (.inl fI))), (mJ, .inl (cI, 4, .inl (k4i j0 j1 j2 j3))), (mS, .inl (cI, 4, .inl (k4i s0 s1 s2 s3))), (mD, .inl (cL, 256, .inr (.inl fD)))] sz eL (fun _ _ => True) (fun _ => [(m0, .inr (8, [.ref mH, .int aM, .long aC, .int mM, .long mQ, .int oV, .int pL, .int lI, .int sW, .int dP, .int sT, .long aT, .int cH, .int iW, .ref mI, .ref mJ, .ref mS, .ref mD, .int iH, .int aE, .int mN, .long sZ, .ref mX, .int tS, .int tA, .int tW, .ref mA, .ref mB, .ref mW, .ref mL, .int lS])), (mH, .inl (cI, 512, .inl fH)), (mI, .inl (cL, 1200, .inr (.inl fI))), (mJ, .inl (cI, 4, .inl (k4i j0 j1 j2 j3))), (mS, .inl (cI, 4, .inl (k4i s0 s1 s2 s3))), (mD, .inl (cL, 256, .inr (.inl fD)))]) 0 0 := by
  refine kStart (cc := cX8_digest) (maxL := 5) (ret := (some .long)) (own := RX8) (by decide) rfl rfl (Nat.le_of_ble_eq_true rfl) ?_
  intro p e s m args below meth c A ls hx hb hr hml hown hts hlocks hnm hsz hA hG hP hD hS hl
  have hK := hG.1
  have hl : lv_has ls 5 [(0, .ref m0)] := hl
  have hu0 : 0 ≤ s0.toInt ∧ s0.toInt ≤ j0.toInt ∧ j0.toInt ≤ 300 := ht0
  have hu1 : 0 ≤ s1.toInt ∧ s1.toInt ≤ j1.toInt ∧ j1.toInt ≤ 300 := ht1
  have hu2 : 0 ≤ s2.toInt ∧ s2.toInt ≤ j2.toInt ∧ j2.toInt ≤ 300 := ht2
  have hu3 : 0 ≤ s3.toInt ∧ s3.toInt ≤ j3.toInt ∧ j3.toInt ≤ 300 := ht3
  refine lv_ldc2 (v := 17) hx hb hown (hts (.constantLong RX8 291 (17)) (List.mem_of_getElem? (i := 1) rfl)) dX8_digest_0 ?_
  refine lv_lstore_n (lv' := [(1, .long 17), (0, .ref m0)]) hx hb dX8_digest_3 rfl hl (by decide) rfl (fun ls hl => ?_)
  refine lv_iconst (v := 0) hx hb dX8_digest_4 (by decide) ?_
  refine lv_istore_n (lv' := [(3, .int 0), (1, .long 17), (0, .ref m0)]) hx hb dX8_digest_5 rfl hl (by decide) rfl (fun ls hl => ?_)
  have J6 : ∀ (k : Nat) (jj : Int32) (h : Int64), (512 - jj.toInt).toNat < k → 0 ≤ jj.toInt → ∀ (H : Heap) (locs : List Loc), va_P D vwCl [(m0, .inr (8, [.ref mH, .int aM, .long aC, .int mM, .long mQ, .int oV, .int pL, .int lI, .int sW, .int dP, .int sT, .long aT, .int cH, .int iW, .ref mI, .ref mJ, .ref mS, .ref mD, .int iH, .int aE, .int mN, .long sZ, .ref mX, .int tS, .int tA, .int tW, .ref mA, .ref mB, .ref mW, .ref mL, .int lS])), (mH, .inl (cI, 512, .inl fH)), (mI, .inl (cL, 1200, .inr (.inl fI))), (mJ, .inl (cI, 4, .inl (k4i j0 j1 j2 j3))), (mS, .inl (cI, 4, .inl (k4i s0 s1 s2 s3))), (mD, .inl (cL, 256, .inr (.inl fD)))] H → va_D A [(m0, .inr (8, [.ref mH, .int aM, .long aC, .int mM, .long mQ, .int oV, .int pL, .int lI, .int sW, .int dP, .int sT, .long aT, .int cH, .int iW, .ref mI, .ref mJ, .ref mS, .ref mD, .int iH, .int aE, .int mN, .long sZ, .ref mX, .int tS, .int tA, .int tW, .ref mA, .ref mB, .ref mW, .ref mL, .int lS])), (mH, .inl (cI, 512, .inl fH)), (mI, .inl (cL, 1200, .inr (.inl fI))), (mJ, .inl (cI, 4, .inl (k4i j0 j1 j2 j3))), (mS, .inl (cI, 4, .inl (k4i s0 s1 s2 s3))), (mD, .inl (cL, 256, .inr (.inl fD)))] → va_S A s.heap H locs → ∀ ls : Array Slot, lv_has ls 5 [(3, .int jj), (1, .long h), (0, .ref m0)] → W p l e ({ frames := 1, cells := 0, slots := 0, locals := 21 }) s m args below meth c H locs 0 0 (MQ below (kQ (S := Unit) eL (fun _ _ => True) D (fun _ => [(m0, .inr (8, [.ref mH, .int aM, .long aC, .int mM, .long mQ, .int oV, .int pL, .int lI, .int sW, .int dP, .int sT, .long aT, .int cH, .int iW, .ref mI, .ref mJ, .ref mS, .ref mD, .int iH, .int aE, .int mN, .long sZ, .ref mX, .int tS, .int tA, .int tW, .ref mA, .ref mB, .ref mW, .ref mL, .int lS])), (mH, .inl (cI, 512, .inl fH)), (mI, .inl (cL, 1200, .inr (.inl fI))), (mJ, .inl (cI, 4, .inl (k4i j0 j1 j2 j3))), (mS, .inl (cI, 4, .inl (k4i s0 s1 s2 s3))), (mD, .inl (cL, 256, .inr (.inl fD)))]) A) args s 0 0 A) (F0 m 6 ls []) := by
    intro k
    induction k with
    | zero =>
      intro jj h hm
      exact absurd hm (Nat.not_lt_zero _)
    | succ k ih =>
      intro jj h hm hjj H locs hP hD hS ls hl
      refine lv_iload_n hx hb dX8_digest_6 rfl (lv_at hl 0 rfl) ?_
      refine lv_sipush (v := 512) hx hb dX8_digest_7 (by decide) ?_
      refine lv_icmp_ge (tgt := 33) hx hb dX8_digest_10 (by decide) (fun c_10_0 => ?_) (fun c_10_0 => ?_)
      · have t_10_0 := c_10_0
        try simp only [kb_eq0, kb_ne0, lg_cmp_lt, lg_cmp_le, lg_cmp_gt, lg_cmp_ge, lg_cmp_eq] at t_10_0
        try simp only [Int32.lt_iff_toInt_lt, Int32.le_iff_toInt_le, ← Int32.toInt_inj, Int64.lt_iff_toInt_lt, Int64.le_iff_toInt_le, ← Int64.toInt_inj, Int32.toInt_toInt64, Int32.reduceToInt, Int64.reduceToInt] at t_10_0
        refine lv_iconst (v := 0) hx hb dX8_digest_33 (by decide) ?_
        refine lv_istore_n (lv' := [(3, .int 0), (1, .long h), (0, .ref m0)]) hx hb dX8_digest_34 rfl hl (by decide) rfl (fun ls hl => ?_)
        have J35 : ∀ (k : Nat) (jj : Int32) (h : Int64), (10 - jj.toInt).toNat < k → 0 ≤ jj.toInt → ∀ (H : Heap) (locs : List Loc), va_P D vwCl [(m0, .inr (8, [.ref mH, .int aM, .long aC, .int mM, .long mQ, .int oV, .int pL, .int lI, .int sW, .int dP, .int sT, .long aT, .int cH, .int iW, .ref mI, .ref mJ, .ref mS, .ref mD, .int iH, .int aE, .int mN, .long sZ, .ref mX, .int tS, .int tA, .int tW, .ref mA, .ref mB, .ref mW, .ref mL, .int lS])), (mH, .inl (cI, 512, .inl fH)), (mI, .inl (cL, 1200, .inr (.inl fI))), (mJ, .inl (cI, 4, .inl (k4i j0 j1 j2 j3))), (mS, .inl (cI, 4, .inl (k4i s0 s1 s2 s3))), (mD, .inl (cL, 256, .inr (.inl fD)))] H → va_D A [(m0, .inr (8, [.ref mH, .int aM, .long aC, .int mM, .long mQ, .int oV, .int pL, .int lI, .int sW, .int dP, .int sT, .long aT, .int cH, .int iW, .ref mI, .ref mJ, .ref mS, .ref mD, .int iH, .int aE, .int mN, .long sZ, .ref mX, .int tS, .int tA, .int tW, .ref mA, .ref mB, .ref mW, .ref mL, .int lS])), (mH, .inl (cI, 512, .inl fH)), (mI, .inl (cL, 1200, .inr (.inl fI))), (mJ, .inl (cI, 4, .inl (k4i j0 j1 j2 j3))), (mS, .inl (cI, 4, .inl (k4i s0 s1 s2 s3))), (mD, .inl (cL, 256, .inr (.inl fD)))] → va_S A s.heap H locs → ∀ ls : Array Slot, lv_has ls 5 [(3, .int jj), (1, .long h), (0, .ref m0)] → W p l e ({ frames := 1, cells := 0, slots := 0, locals := 21 }) s m args below meth c H locs 0 0 (MQ below (kQ (S := Unit) eL (fun _ _ => True) D (fun _ => [(m0, .inr (8, [.ref mH, .int aM, .long aC, .int mM, .long mQ, .int oV, .int pL, .int lI, .int sW, .int dP, .int sT, .long aT, .int cH, .int iW, .ref mI, .ref mJ, .ref mS, .ref mD, .int iH, .int aE, .int mN, .long sZ, .ref mX, .int tS, .int tA, .int tW, .ref mA, .ref mB, .ref mW, .ref mL, .int lS])), (mH, .inl (cI, 512, .inl fH)), (mI, .inl (cL, 1200, .inr (.inl fI))), (mJ, .inl (cI, 4, .inl (k4i j0 j1 j2 j3))), (mS, .inl (cI, 4, .inl (k4i s0 s1 s2 s3))), (mD, .inl (cL, 256, .inr (.inl fD)))]) A) args s 0 0 A) (F0 m 35 ls []) := by
          intro k
          induction k with
          | zero =>
            intro jj h hm
            exact absurd hm (Nat.not_lt_zero _)
          | succ k ih =>
            intro jj h hm hjj H locs hP hD hS ls hl
            refine lv_iload_n hx hb dX8_digest_35 rfl (lv_at hl 0 rfl) ?_
            refine lv_bipush (v := 10) hx hb dX8_digest_36 (by decide) ?_
            refine lv_icmp_ge (tgt := 59) hx hb dX8_digest_38 (by decide) (fun c_38_1 => ?_) (fun c_38_1 => ?_)
            · have t_38_1 := c_38_1
              try simp only [kb_eq0, kb_ne0, lg_cmp_lt, lg_cmp_le, lg_cmp_gt, lg_cmp_ge, lg_cmp_eq] at t_38_1
              try simp only [Int32.lt_iff_toInt_lt, Int32.le_iff_toInt_le, ← Int32.toInt_inj, Int64.lt_iff_toInt_lt, Int64.le_iff_toInt_le, ← Int64.toInt_inj, Int32.toInt_toInt64, Int32.reduceToInt, Int64.reduceToInt] at t_38_1
              refine lv_iconst (v := 0) hx hb dX8_digest_59 (by decide) ?_
              refine lv_istore_n (lv' := [(3, .int 0), (1, .long h), (0, .ref m0)]) hx hb dX8_digest_60 rfl hl (by decide) rfl (fun ls hl => ?_)
              refine lv_iload_n hx hb dX8_digest_61 rfl (lv_at hl 0 rfl) ?_
              refine lv_iconst (v := 4) hx hb dX8_digest_62 (by decide) ?_
              refine lv_icmp_ge (tgt := 138) hx hb dX8_digest_63 (by decide) (fun c_63_2 => ?_) (fun c_63_2 => ?_)
              · exact absurd c_63_2 (by decide)
              · have t_63_2 := c_63_2
                try simp only [kb_eq0, kb_ne0, lg_cmp_lt, lg_cmp_le, lg_cmp_gt, lg_cmp_ge, lg_cmp_eq] at t_63_2
                try simp only [Int32.lt_iff_toInt_lt, Int32.le_iff_toInt_le, ← Int32.toInt_inj, Int64.lt_iff_toInt_lt, Int64.le_iff_toInt_le, ← Int64.toInt_inj, Int32.toInt_toInt64, Int32.reduceToInt, Int64.reduceToInt] at t_63_2
                refine lv_ldc2 (v := 31) hx hb hown (hts (.constantLong RX8 293 (31)) (List.mem_of_getElem? (i := 2) rfl)) dX8_digest_66 ?_
                refine lv_ldc2 (v := 31) hx hb hown (hts (.constantLong RX8 293 (31)) (List.mem_of_getElem? (i := 2) rfl)) dX8_digest_69 ?_
                refine lv_lload_n hx hb dX8_digest_72 rfl (lv_at hl 1 rfl) ?_
                refine lv_lmul hx hb dX8_digest_73 ?_
                refine lv_aload_n hx hb dX8_digest_74 rfl (lv_at hl 2 rfl) ?_
                refine va_get (D := D) (ci := 8) (v := .ref mJ) (C := RX8) (T := TX8) (N := 31) hx hb hts iX8_digest_X8 hown hK hP 0 rfl rfl 15 (by decide) (hts (.fieldLink RX8 17 "TapeCalculatorModel" "items" "[I") (List.mem_of_getElem? (i := 4) rfl)) (fun _ h9 => h9) rfl dX8_digest_75 ?_
                refine lv_iload_n hx hb dX8_digest_78 rfl (lv_at hl 0 rfl) ?_
                refine va_iald hx hb hK hP 3 0 rfl rfl (vp_in_iff.mpr (by decide)) dX8_digest_79 ?_
                refine lv_topi (fun x_4 ex_4 => ?_)
                obtain rfl : j0 = x_4 := ex_4.symm
                refine lv_i2l hx hb dX8_digest_80 rfl ?_
                refine lv_ladd hx hb dX8_digest_81 ?_
                refine lv_lmul hx hb dX8_digest_82 ?_
                refine lv_aload_n hx hb dX8_digest_83 rfl (lv_at hl 2 rfl) ?_
                refine va_get (D := D) (ci := 8) (v := .ref mS) (C := RX8) (T := TX8) (N := 31) hx hb hts iX8_digest_X8 hown hK hP 0 rfl rfl 16 (by decide) (hts (.fieldLink RX8 20 "TapeCalculatorModel" "stands" "[I") (List.mem_of_getElem? (i := 5) rfl)) (fun _ h9 => h9) rfl dX8_digest_84 ?_
                refine lv_iload_n hx hb dX8_digest_87 rfl (lv_at hl 0 rfl) ?_
                refine va_iald hx hb hK hP 4 0 rfl rfl (vp_in_iff.mpr (by decide)) dX8_digest_88 ?_
                refine lv_topi (fun x_5 ex_5 => ?_)
                obtain rfl : s0 = x_5 := ex_5.symm
                refine lv_i2l hx hb dX8_digest_89 rfl ?_
                refine lv_ladd hx hb dX8_digest_90 ?_
                refine lv_topl (fun x_6 ex_6 => ?_)
                refine lv_lstore_n (lv' := [(1, .long x_6), (3, .int 0), (0, .ref m0)]) hx hb dX8_digest_91 rfl hl (by decide) rfl (fun ls hl => ?_)
                refine lv_iconst (v := 0) hx hb dX8_digest_92 (by decide) ?_
                refine lv_istore (lv' := [(4, .int 0), (1, .long x_6), (3, .int 0), (0, .ref m0)]) hx hb dX8_digest_93 hl (by decide) rfl (fun ls hl => ?_)
                have J95 : ∀ (k : Nat) (ii : Int32) (h : Int64), (j0.toInt - ii.toInt).toNat < k → 0 ≤ ii.toInt → ∀ (H : Heap) (locs : List Loc), va_P D vwCl [(m0, .inr (8, [.ref mH, .int aM, .long aC, .int mM, .long mQ, .int oV, .int pL, .int lI, .int sW, .int dP, .int sT, .long aT, .int cH, .int iW, .ref mI, .ref mJ, .ref mS, .ref mD, .int iH, .int aE, .int mN, .long sZ, .ref mX, .int tS, .int tA, .int tW, .ref mA, .ref mB, .ref mW, .ref mL, .int lS])), (mH, .inl (cI, 512, .inl fH)), (mI, .inl (cL, 1200, .inr (.inl fI))), (mJ, .inl (cI, 4, .inl (k4i j0 j1 j2 j3))), (mS, .inl (cI, 4, .inl (k4i s0 s1 s2 s3))), (mD, .inl (cL, 256, .inr (.inl fD)))] H → va_D A [(m0, .inr (8, [.ref mH, .int aM, .long aC, .int mM, .long mQ, .int oV, .int pL, .int lI, .int sW, .int dP, .int sT, .long aT, .int cH, .int iW, .ref mI, .ref mJ, .ref mS, .ref mD, .int iH, .int aE, .int mN, .long sZ, .ref mX, .int tS, .int tA, .int tW, .ref mA, .ref mB, .ref mW, .ref mL, .int lS])), (mH, .inl (cI, 512, .inl fH)), (mI, .inl (cL, 1200, .inr (.inl fI))), (mJ, .inl (cI, 4, .inl (k4i j0 j1 j2 j3))), (mS, .inl (cI, 4, .inl (k4i s0 s1 s2 s3))), (mD, .inl (cL, 256, .inr (.inl fD)))] → va_S A s.heap H locs → ∀ ls : Array Slot, lv_has ls 5 [(4, .int ii), (1, .long h), (3, .int 0), (0, .ref m0)] → W p l e ({ frames := 1, cells := 0, slots := 0, locals := 21 }) s m args below meth c H locs 0 0 (MQ below (kQ (S := Unit) eL (fun _ _ => True) D (fun _ => [(m0, .inr (8, [.ref mH, .int aM, .long aC, .int mM, .long mQ, .int oV, .int pL, .int lI, .int sW, .int dP, .int sT, .long aT, .int cH, .int iW, .ref mI, .ref mJ, .ref mS, .ref mD, .int iH, .int aE, .int mN, .long sZ, .ref mX, .int tS, .int tA, .int tW, .ref mA, .ref mB, .ref mW, .ref mL, .int lS])), (mH, .inl (cI, 512, .inl fH)), (mI, .inl (cL, 1200, .inr (.inl fI))), (mJ, .inl (cI, 4, .inl (k4i j0 j1 j2 j3))), (mS, .inl (cI, 4, .inl (k4i s0 s1 s2 s3))), (mD, .inl (cL, 256, .inr (.inl fD)))]) A) args s 0 0 A) (F0 m 95 ls []) := by
                  intro k
                  induction k with
                  | zero =>
                    intro ii h hm
                    exact absurd hm (Nat.not_lt_zero _)
                  | succ k ih =>
                    intro ii h hm hii H locs hP hD hS ls hl
                    refine lv_iload hx hb dX8_digest_95 (lv_at hl 0 rfl) ?_
                    refine lv_aload_n hx hb dX8_digest_97 rfl (lv_at hl 3 rfl) ?_
                    refine va_get (D := D) (ci := 8) (v := .ref mJ) (C := RX8) (T := TX8) (N := 31) hx hb hts iX8_digest_X8 hown hK hP 0 rfl rfl 15 (by decide) (hts (.fieldLink RX8 17 "TapeCalculatorModel" "items" "[I") (List.mem_of_getElem? (i := 4) rfl)) (fun _ h9 => h9) rfl dX8_digest_98 ?_
                    refine lv_iload_n hx hb dX8_digest_101 rfl (lv_at hl 2 rfl) ?_
                    refine va_iald hx hb hK hP 3 0 rfl rfl (vp_in_iff.mpr (by decide)) dX8_digest_102 ?_
                    refine lv_topi (fun x_7 ex_7 => ?_)
                    obtain rfl : j0 = x_7 := ex_7.symm
                    refine lv_icmp_ge (tgt := 132) hx hb dX8_digest_103 (by decide) (fun c_103_7 => ?_) (fun c_103_7 => ?_)
                    · have t_103_7 := c_103_7
                      try simp only [kb_eq0, kb_ne0, lg_cmp_lt, lg_cmp_le, lg_cmp_gt, lg_cmp_ge, lg_cmp_eq] at t_103_7
                      try simp only [Int32.lt_iff_toInt_lt, Int32.le_iff_toInt_le, ← Int32.toInt_inj, Int64.lt_iff_toInt_lt, Int64.le_iff_toInt_le, ← Int64.toInt_inj, Int32.toInt_toInt64, Int32.reduceToInt, Int64.reduceToInt] at t_103_7
                      refine lv_iinc (v := 1) (lv' := [(3, .int 1), (4, .int ii), (1, .long h), (0, .ref m0)]) hx hb dX8_digest_132 hl (k := 2) rfl (by decide) (by decide) rfl (fun ls hl => ?_)
                      refine lv_goto (tgt := 61) hx hb dX8_digest_135 (by decide) ?_
                      refine lv_iload_n hx hb dX8_digest_61 rfl (lv_at hl 0 rfl) ?_
                      refine lv_iconst (v := 4) hx hb dX8_digest_62 (by decide) ?_
                      refine lv_icmp_ge (tgt := 138) hx hb dX8_digest_63 (by decide) (fun c_63_8 => ?_) (fun c_63_8 => ?_)
                      · exact absurd c_63_8 (by decide)
                      · have t_63_8 := c_63_8
                        try simp only [kb_eq0, kb_ne0, lg_cmp_lt, lg_cmp_le, lg_cmp_gt, lg_cmp_ge, lg_cmp_eq] at t_63_8
                        try simp only [Int32.lt_iff_toInt_lt, Int32.le_iff_toInt_le, ← Int32.toInt_inj, Int64.lt_iff_toInt_lt, Int64.le_iff_toInt_le, ← Int64.toInt_inj, Int32.toInt_toInt64, Int32.reduceToInt, Int64.reduceToInt] at t_63_8
                        refine lv_ldc2 (v := 31) hx hb hown (hts (.constantLong RX8 293 (31)) (List.mem_of_getElem? (i := 2) rfl)) dX8_digest_66 ?_
                        refine lv_ldc2 (v := 31) hx hb hown (hts (.constantLong RX8 293 (31)) (List.mem_of_getElem? (i := 2) rfl)) dX8_digest_69 ?_
                        refine lv_lload_n hx hb dX8_digest_72 rfl (lv_at hl 2 rfl) ?_
                        refine lv_lmul hx hb dX8_digest_73 ?_
                        refine lv_aload_n hx hb dX8_digest_74 rfl (lv_at hl 3 rfl) ?_
                        refine va_get (D := D) (ci := 8) (v := .ref mJ) (C := RX8) (T := TX8) (N := 31) hx hb hts iX8_digest_X8 hown hK hP 0 rfl rfl 15 (by decide) (hts (.fieldLink RX8 17 "TapeCalculatorModel" "items" "[I") (List.mem_of_getElem? (i := 4) rfl)) (fun _ h9 => h9) rfl dX8_digest_75 ?_
                        refine lv_iload_n hx hb dX8_digest_78 rfl (lv_at hl 0 rfl) ?_
                        refine va_iald hx hb hK hP 3 0 rfl rfl (vp_in_iff.mpr (by decide)) dX8_digest_79 ?_
                        refine lv_topi (fun x_10 ex_10 => ?_)
                        obtain rfl : j1 = x_10 := ex_10.symm
                        refine lv_i2l hx hb dX8_digest_80 rfl ?_
                        refine lv_ladd hx hb dX8_digest_81 ?_
                        refine lv_lmul hx hb dX8_digest_82 ?_
                        refine lv_aload_n hx hb dX8_digest_83 rfl (lv_at hl 3 rfl) ?_
                        refine va_get (D := D) (ci := 8) (v := .ref mS) (C := RX8) (T := TX8) (N := 31) hx hb hts iX8_digest_X8 hown hK hP 0 rfl rfl 16 (by decide) (hts (.fieldLink RX8 20 "TapeCalculatorModel" "stands" "[I") (List.mem_of_getElem? (i := 5) rfl)) (fun _ h9 => h9) rfl dX8_digest_84 ?_
                        refine lv_iload_n hx hb dX8_digest_87 rfl (lv_at hl 0 rfl) ?_
                        refine va_iald hx hb hK hP 4 0 rfl rfl (vp_in_iff.mpr (by decide)) dX8_digest_88 ?_
                        refine lv_topi (fun x_11 ex_11 => ?_)
                        obtain rfl : s1 = x_11 := ex_11.symm
                        refine lv_i2l hx hb dX8_digest_89 rfl ?_
                        refine lv_ladd hx hb dX8_digest_90 ?_
                        refine lv_topl (fun x_12 ex_12 => ?_)
                        refine lv_lstore_n (lv' := [(1, .long x_12), (3, .int 1), (4, .int ii), (0, .ref m0)]) hx hb dX8_digest_91 rfl hl (by decide) rfl (fun ls hl => ?_)
                        refine lv_iconst (v := 0) hx hb dX8_digest_92 (by decide) ?_
                        refine lv_istore (lv' := [(4, .int 0), (1, .long x_12), (3, .int 1), (0, .ref m0)]) hx hb dX8_digest_93 hl (by decide) rfl (fun ls hl => ?_)
                        have J95 : ∀ (k : Nat) (ii : Int32) (h : Int64), (j1.toInt - ii.toInt).toNat < k → 0 ≤ ii.toInt → ∀ (H : Heap) (locs : List Loc), va_P D vwCl [(m0, .inr (8, [.ref mH, .int aM, .long aC, .int mM, .long mQ, .int oV, .int pL, .int lI, .int sW, .int dP, .int sT, .long aT, .int cH, .int iW, .ref mI, .ref mJ, .ref mS, .ref mD, .int iH, .int aE, .int mN, .long sZ, .ref mX, .int tS, .int tA, .int tW, .ref mA, .ref mB, .ref mW, .ref mL, .int lS])), (mH, .inl (cI, 512, .inl fH)), (mI, .inl (cL, 1200, .inr (.inl fI))), (mJ, .inl (cI, 4, .inl (k4i j0 j1 j2 j3))), (mS, .inl (cI, 4, .inl (k4i s0 s1 s2 s3))), (mD, .inl (cL, 256, .inr (.inl fD)))] H → va_D A [(m0, .inr (8, [.ref mH, .int aM, .long aC, .int mM, .long mQ, .int oV, .int pL, .int lI, .int sW, .int dP, .int sT, .long aT, .int cH, .int iW, .ref mI, .ref mJ, .ref mS, .ref mD, .int iH, .int aE, .int mN, .long sZ, .ref mX, .int tS, .int tA, .int tW, .ref mA, .ref mB, .ref mW, .ref mL, .int lS])), (mH, .inl (cI, 512, .inl fH)), (mI, .inl (cL, 1200, .inr (.inl fI))), (mJ, .inl (cI, 4, .inl (k4i j0 j1 j2 j3))), (mS, .inl (cI, 4, .inl (k4i s0 s1 s2 s3))), (mD, .inl (cL, 256, .inr (.inl fD)))] → va_S A s.heap H locs → ∀ ls : Array Slot, lv_has ls 5 [(4, .int ii), (1, .long h), (3, .int 1), (0, .ref m0)] → W p l e ({ frames := 1, cells := 0, slots := 0, locals := 21 }) s m args below meth c H locs 0 0 (MQ below (kQ (S := Unit) eL (fun _ _ => True) D (fun _ => [(m0, .inr (8, [.ref mH, .int aM, .long aC, .int mM, .long mQ, .int oV, .int pL, .int lI, .int sW, .int dP, .int sT, .long aT, .int cH, .int iW, .ref mI, .ref mJ, .ref mS, .ref mD, .int iH, .int aE, .int mN, .long sZ, .ref mX, .int tS, .int tA, .int tW, .ref mA, .ref mB, .ref mW, .ref mL, .int lS])), (mH, .inl (cI, 512, .inl fH)), (mI, .inl (cL, 1200, .inr (.inl fI))), (mJ, .inl (cI, 4, .inl (k4i j0 j1 j2 j3))), (mS, .inl (cI, 4, .inl (k4i s0 s1 s2 s3))), (mD, .inl (cL, 256, .inr (.inl fD)))]) A) args s 0 0 A) (F0 m 95 ls []) := by
                          intro k
                          induction k with
                          | zero =>
                            intro ii h hm
                            exact absurd hm (Nat.not_lt_zero _)
                          | succ k ih =>
                            intro ii h hm hii H locs hP hD hS ls hl
                            refine lv_iload hx hb dX8_digest_95 (lv_at hl 0 rfl) ?_
                            refine lv_aload_n hx hb dX8_digest_97 rfl (lv_at hl 3 rfl) ?_
                            refine va_get (D := D) (ci := 8) (v := .ref mJ) (C := RX8) (T := TX8) (N := 31) hx hb hts iX8_digest_X8 hown hK hP 0 rfl rfl 15 (by decide) (hts (.fieldLink RX8 17 "TapeCalculatorModel" "items" "[I") (List.mem_of_getElem? (i := 4) rfl)) (fun _ h9 => h9) rfl dX8_digest_98 ?_
                            refine lv_iload_n hx hb dX8_digest_101 rfl (lv_at hl 2 rfl) ?_
                            refine va_iald hx hb hK hP 3 0 rfl rfl (vp_in_iff.mpr (by decide)) dX8_digest_102 ?_
                            refine lv_topi (fun x_13 ex_13 => ?_)
                            obtain rfl : j1 = x_13 := ex_13.symm
                            refine lv_icmp_ge (tgt := 132) hx hb dX8_digest_103 (by decide) (fun c_103_13 => ?_) (fun c_103_13 => ?_)
                            · have t_103_13 := c_103_13
                              try simp only [kb_eq0, kb_ne0, lg_cmp_lt, lg_cmp_le, lg_cmp_gt, lg_cmp_ge, lg_cmp_eq] at t_103_13
                              try simp only [Int32.lt_iff_toInt_lt, Int32.le_iff_toInt_le, ← Int32.toInt_inj, Int64.lt_iff_toInt_lt, Int64.le_iff_toInt_le, ← Int64.toInt_inj, Int32.toInt_toInt64, Int32.reduceToInt, Int64.reduceToInt] at t_103_13
                              refine lv_iinc (v := 2) (lv' := [(3, .int 2), (4, .int ii), (1, .long h), (0, .ref m0)]) hx hb dX8_digest_132 hl (k := 2) rfl (by decide) (by decide) rfl (fun ls hl => ?_)
                              refine lv_goto (tgt := 61) hx hb dX8_digest_135 (by decide) ?_
                              refine lv_iload_n hx hb dX8_digest_61 rfl (lv_at hl 0 rfl) ?_
                              refine lv_iconst (v := 4) hx hb dX8_digest_62 (by decide) ?_
                              refine lv_icmp_ge (tgt := 138) hx hb dX8_digest_63 (by decide) (fun c_63_14 => ?_) (fun c_63_14 => ?_)
                              · exact absurd c_63_14 (by decide)
                              · have t_63_14 := c_63_14
                                try simp only [kb_eq0, kb_ne0, lg_cmp_lt, lg_cmp_le, lg_cmp_gt, lg_cmp_ge, lg_cmp_eq] at t_63_14
                                try simp only [Int32.lt_iff_toInt_lt, Int32.le_iff_toInt_le, ← Int32.toInt_inj, Int64.lt_iff_toInt_lt, Int64.le_iff_toInt_le, ← Int64.toInt_inj, Int32.toInt_toInt64, Int32.reduceToInt, Int64.reduceToInt] at t_63_14
                                refine lv_ldc2 (v := 31) hx hb hown (hts (.constantLong RX8 293 (31)) (List.mem_of_getElem? (i := 2) rfl)) dX8_digest_66 ?_
                                refine lv_ldc2 (v := 31) hx hb hown (hts (.constantLong RX8 293 (31)) (List.mem_of_getElem? (i := 2) rfl)) dX8_digest_69 ?_
                                refine lv_lload_n hx hb dX8_digest_72 rfl (lv_at hl 2 rfl) ?_
                                refine lv_lmul hx hb dX8_digest_73 ?_
                                refine lv_aload_n hx hb dX8_digest_74 rfl (lv_at hl 3 rfl) ?_
                                refine va_get (D := D) (ci := 8) (v := .ref mJ) (C := RX8) (T := TX8) (N := 31) hx hb hts iX8_digest_X8 hown hK hP 0 rfl rfl 15 (by decide) (hts (.fieldLink RX8 17 "TapeCalculatorModel" "items" "[I") (List.mem_of_getElem? (i := 4) rfl)) (fun _ h9 => h9) rfl dX8_digest_75 ?_
                                refine lv_iload_n hx hb dX8_digest_78 rfl (lv_at hl 0 rfl) ?_
                                refine va_iald hx hb hK hP 3 0 rfl rfl (vp_in_iff.mpr (by decide)) dX8_digest_79 ?_
                                refine lv_topi (fun x_16 ex_16 => ?_)
                                obtain rfl : j2 = x_16 := ex_16.symm
                                refine lv_i2l hx hb dX8_digest_80 rfl ?_
                                refine lv_ladd hx hb dX8_digest_81 ?_
                                refine lv_lmul hx hb dX8_digest_82 ?_
                                refine lv_aload_n hx hb dX8_digest_83 rfl (lv_at hl 3 rfl) ?_
                                refine va_get (D := D) (ci := 8) (v := .ref mS) (C := RX8) (T := TX8) (N := 31) hx hb hts iX8_digest_X8 hown hK hP 0 rfl rfl 16 (by decide) (hts (.fieldLink RX8 20 "TapeCalculatorModel" "stands" "[I") (List.mem_of_getElem? (i := 5) rfl)) (fun _ h9 => h9) rfl dX8_digest_84 ?_
                                refine lv_iload_n hx hb dX8_digest_87 rfl (lv_at hl 0 rfl) ?_
                                refine va_iald hx hb hK hP 4 0 rfl rfl (vp_in_iff.mpr (by decide)) dX8_digest_88 ?_
                                refine lv_topi (fun x_17 ex_17 => ?_)
                                obtain rfl : s2 = x_17 := ex_17.symm
                                refine lv_i2l hx hb dX8_digest_89 rfl ?_
                                refine lv_ladd hx hb dX8_digest_90 ?_
                                refine lv_topl (fun x_18 ex_18 => ?_)
                                refine lv_lstore_n (lv' := [(1, .long x_18), (3, .int 2), (4, .int ii), (0, .ref m0)]) hx hb dX8_digest_91 rfl hl (by decide) rfl (fun ls hl => ?_)
                                refine lv_iconst (v := 0) hx hb dX8_digest_92 (by decide) ?_
                                refine lv_istore (lv' := [(4, .int 0), (1, .long x_18), (3, .int 2), (0, .ref m0)]) hx hb dX8_digest_93 hl (by decide) rfl (fun ls hl => ?_)
                                have J95 : ∀ (k : Nat) (ii : Int32) (h : Int64), (j2.toInt - ii.toInt).toNat < k → 0 ≤ ii.toInt → ∀ (H : Heap) (locs : List Loc), va_P D vwCl [(m0, .inr (8, [.ref mH, .int aM, .long aC, .int mM, .long mQ, .int oV, .int pL, .int lI, .int sW, .int dP, .int sT, .long aT, .int cH, .int iW, .ref mI, .ref mJ, .ref mS, .ref mD, .int iH, .int aE, .int mN, .long sZ, .ref mX, .int tS, .int tA, .int tW, .ref mA, .ref mB, .ref mW, .ref mL, .int lS])), (mH, .inl (cI, 512, .inl fH)), (mI, .inl (cL, 1200, .inr (.inl fI))), (mJ, .inl (cI, 4, .inl (k4i j0 j1 j2 j3))), (mS, .inl (cI, 4, .inl (k4i s0 s1 s2 s3))), (mD, .inl (cL, 256, .inr (.inl fD)))] H → va_D A [(m0, .inr (8, [.ref mH, .int aM, .long aC, .int mM, .long mQ, .int oV, .int pL, .int lI, .int sW, .int dP, .int sT, .long aT, .int cH, .int iW, .ref mI, .ref mJ, .ref mS, .ref mD, .int iH, .int aE, .int mN, .long sZ, .ref mX, .int tS, .int tA, .int tW, .ref mA, .ref mB, .ref mW, .ref mL, .int lS])), (mH, .inl (cI, 512, .inl fH)), (mI, .inl (cL, 1200, .inr (.inl fI))), (mJ, .inl (cI, 4, .inl (k4i j0 j1 j2 j3))), (mS, .inl (cI, 4, .inl (k4i s0 s1 s2 s3))), (mD, .inl (cL, 256, .inr (.inl fD)))] → va_S A s.heap H locs → ∀ ls : Array Slot, lv_has ls 5 [(4, .int ii), (1, .long h), (3, .int 2), (0, .ref m0)] → W p l e ({ frames := 1, cells := 0, slots := 0, locals := 21 }) s m args below meth c H locs 0 0 (MQ below (kQ (S := Unit) eL (fun _ _ => True) D (fun _ => [(m0, .inr (8, [.ref mH, .int aM, .long aC, .int mM, .long mQ, .int oV, .int pL, .int lI, .int sW, .int dP, .int sT, .long aT, .int cH, .int iW, .ref mI, .ref mJ, .ref mS, .ref mD, .int iH, .int aE, .int mN, .long sZ, .ref mX, .int tS, .int tA, .int tW, .ref mA, .ref mB, .ref mW, .ref mL, .int lS])), (mH, .inl (cI, 512, .inl fH)), (mI, .inl (cL, 1200, .inr (.inl fI))), (mJ, .inl (cI, 4, .inl (k4i j0 j1 j2 j3))), (mS, .inl (cI, 4, .inl (k4i s0 s1 s2 s3))), (mD, .inl (cL, 256, .inr (.inl fD)))]) A) args s 0 0 A) (F0 m 95 ls []) := by
                                  intro k
                                  induction k with
                                  | zero =>
                                    intro ii h hm
                                    exact absurd hm (Nat.not_lt_zero _)
                                  | succ k ih =>
                                    intro ii h hm hii H locs hP hD hS ls hl
                                    refine lv_iload hx hb dX8_digest_95 (lv_at hl 0 rfl) ?_
                                    refine lv_aload_n hx hb dX8_digest_97 rfl (lv_at hl 3 rfl) ?_
                                    refine va_get (D := D) (ci := 8) (v := .ref mJ) (C := RX8) (T := TX8) (N := 31) hx hb hts iX8_digest_X8 hown hK hP 0 rfl rfl 15 (by decide) (hts (.fieldLink RX8 17 "TapeCalculatorModel" "items" "[I") (List.mem_of_getElem? (i := 4) rfl)) (fun _ h9 => h9) rfl dX8_digest_98 ?_
                                    refine lv_iload_n hx hb dX8_digest_101 rfl (lv_at hl 2 rfl) ?_
                                    refine va_iald hx hb hK hP 3 0 rfl rfl (vp_in_iff.mpr (by decide)) dX8_digest_102 ?_
                                    refine lv_topi (fun x_19 ex_19 => ?_)
                                    obtain rfl : j2 = x_19 := ex_19.symm
                                    refine lv_icmp_ge (tgt := 132) hx hb dX8_digest_103 (by decide) (fun c_103_19 => ?_) (fun c_103_19 => ?_)
                                    · have t_103_19 := c_103_19
                                      try simp only [kb_eq0, kb_ne0, lg_cmp_lt, lg_cmp_le, lg_cmp_gt, lg_cmp_ge, lg_cmp_eq] at t_103_19
                                      try simp only [Int32.lt_iff_toInt_lt, Int32.le_iff_toInt_le, ← Int32.toInt_inj, Int64.lt_iff_toInt_lt, Int64.le_iff_toInt_le, ← Int64.toInt_inj, Int32.toInt_toInt64, Int32.reduceToInt, Int64.reduceToInt] at t_103_19
                                      refine lv_iinc (v := 3) (lv' := [(3, .int 3), (4, .int ii), (1, .long h), (0, .ref m0)]) hx hb dX8_digest_132 hl (k := 2) rfl (by decide) (by decide) rfl (fun ls hl => ?_)
                                      refine lv_goto (tgt := 61) hx hb dX8_digest_135 (by decide) ?_
                                      refine lv_iload_n hx hb dX8_digest_61 rfl (lv_at hl 0 rfl) ?_
                                      refine lv_iconst (v := 4) hx hb dX8_digest_62 (by decide) ?_
                                      refine lv_icmp_ge (tgt := 138) hx hb dX8_digest_63 (by decide) (fun c_63_20 => ?_) (fun c_63_20 => ?_)
                                      · exact absurd c_63_20 (by decide)
                                      · have t_63_20 := c_63_20
                                        try simp only [kb_eq0, kb_ne0, lg_cmp_lt, lg_cmp_le, lg_cmp_gt, lg_cmp_ge, lg_cmp_eq] at t_63_20
                                        try simp only [Int32.lt_iff_toInt_lt, Int32.le_iff_toInt_le, ← Int32.toInt_inj, Int64.lt_iff_toInt_lt, Int64.le_iff_toInt_le, ← Int64.toInt_inj, Int32.toInt_toInt64, Int32.reduceToInt, Int64.reduceToInt] at t_63_20
                                        refine lv_ldc2 (v := 31) hx hb hown (hts (.constantLong RX8 293 (31)) (List.mem_of_getElem? (i := 2) rfl)) dX8_digest_66 ?_
                                        refine lv_ldc2 (v := 31) hx hb hown (hts (.constantLong RX8 293 (31)) (List.mem_of_getElem? (i := 2) rfl)) dX8_digest_69 ?_
                                        refine lv_lload_n hx hb dX8_digest_72 rfl (lv_at hl 2 rfl) ?_
                                        refine lv_lmul hx hb dX8_digest_73 ?_
                                        refine lv_aload_n hx hb dX8_digest_74 rfl (lv_at hl 3 rfl) ?_
                                        refine va_get (D := D) (ci := 8) (v := .ref mJ) (C := RX8) (T := TX8) (N := 31) hx hb hts iX8_digest_X8 hown hK hP 0 rfl rfl 15 (by decide) (hts (.fieldLink RX8 17 "TapeCalculatorModel" "items" "[I") (List.mem_of_getElem? (i := 4) rfl)) (fun _ h9 => h9) rfl dX8_digest_75 ?_
                                        refine lv_iload_n hx hb dX8_digest_78 rfl (lv_at hl 0 rfl) ?_
                                        refine va_iald hx hb hK hP 3 0 rfl rfl (vp_in_iff.mpr (by decide)) dX8_digest_79 ?_
                                        refine lv_topi (fun x_22 ex_22 => ?_)
                                        obtain rfl : j3 = x_22 := ex_22.symm
                                        refine lv_i2l hx hb dX8_digest_80 rfl ?_
                                        refine lv_ladd hx hb dX8_digest_81 ?_
                                        refine lv_lmul hx hb dX8_digest_82 ?_
                                        refine lv_aload_n hx hb dX8_digest_83 rfl (lv_at hl 3 rfl) ?_
                                        refine va_get (D := D) (ci := 8) (v := .ref mS) (C := RX8) (T := TX8) (N := 31) hx hb hts iX8_digest_X8 hown hK hP 0 rfl rfl 16 (by decide) (hts (.fieldLink RX8 20 "TapeCalculatorModel" "stands" "[I") (List.mem_of_getElem? (i := 5) rfl)) (fun _ h9 => h9) rfl dX8_digest_84 ?_
                                        refine lv_iload_n hx hb dX8_digest_87 rfl (lv_at hl 0 rfl) ?_
                                        refine va_iald hx hb hK hP 4 0 rfl rfl (vp_in_iff.mpr (by decide)) dX8_digest_88 ?_
                                        refine lv_topi (fun x_23 ex_23 => ?_)
                                        obtain rfl : s3 = x_23 := ex_23.symm
                                        refine lv_i2l hx hb dX8_digest_89 rfl ?_
                                        refine lv_ladd hx hb dX8_digest_90 ?_
                                        refine lv_topl (fun x_24 ex_24 => ?_)
                                        refine lv_lstore_n (lv' := [(1, .long x_24), (3, .int 3), (4, .int ii), (0, .ref m0)]) hx hb dX8_digest_91 rfl hl (by decide) rfl (fun ls hl => ?_)
                                        refine lv_iconst (v := 0) hx hb dX8_digest_92 (by decide) ?_
                                        refine lv_istore (lv' := [(4, .int 0), (1, .long x_24), (3, .int 3), (0, .ref m0)]) hx hb dX8_digest_93 hl (by decide) rfl (fun ls hl => ?_)
                                        have J95 : ∀ (k : Nat) (ii : Int32) (h : Int64), (j3.toInt - ii.toInt).toNat < k → 0 ≤ ii.toInt → ∀ (H : Heap) (locs : List Loc), va_P D vwCl [(m0, .inr (8, [.ref mH, .int aM, .long aC, .int mM, .long mQ, .int oV, .int pL, .int lI, .int sW, .int dP, .int sT, .long aT, .int cH, .int iW, .ref mI, .ref mJ, .ref mS, .ref mD, .int iH, .int aE, .int mN, .long sZ, .ref mX, .int tS, .int tA, .int tW, .ref mA, .ref mB, .ref mW, .ref mL, .int lS])), (mH, .inl (cI, 512, .inl fH)), (mI, .inl (cL, 1200, .inr (.inl fI))), (mJ, .inl (cI, 4, .inl (k4i j0 j1 j2 j3))), (mS, .inl (cI, 4, .inl (k4i s0 s1 s2 s3))), (mD, .inl (cL, 256, .inr (.inl fD)))] H → va_D A [(m0, .inr (8, [.ref mH, .int aM, .long aC, .int mM, .long mQ, .int oV, .int pL, .int lI, .int sW, .int dP, .int sT, .long aT, .int cH, .int iW, .ref mI, .ref mJ, .ref mS, .ref mD, .int iH, .int aE, .int mN, .long sZ, .ref mX, .int tS, .int tA, .int tW, .ref mA, .ref mB, .ref mW, .ref mL, .int lS])), (mH, .inl (cI, 512, .inl fH)), (mI, .inl (cL, 1200, .inr (.inl fI))), (mJ, .inl (cI, 4, .inl (k4i j0 j1 j2 j3))), (mS, .inl (cI, 4, .inl (k4i s0 s1 s2 s3))), (mD, .inl (cL, 256, .inr (.inl fD)))] → va_S A s.heap H locs → ∀ ls : Array Slot, lv_has ls 5 [(4, .int ii), (1, .long h), (3, .int 3), (0, .ref m0)] → W p l e ({ frames := 1, cells := 0, slots := 0, locals := 21 }) s m args below meth c H locs 0 0 (MQ below (kQ (S := Unit) eL (fun _ _ => True) D (fun _ => [(m0, .inr (8, [.ref mH, .int aM, .long aC, .int mM, .long mQ, .int oV, .int pL, .int lI, .int sW, .int dP, .int sT, .long aT, .int cH, .int iW, .ref mI, .ref mJ, .ref mS, .ref mD, .int iH, .int aE, .int mN, .long sZ, .ref mX, .int tS, .int tA, .int tW, .ref mA, .ref mB, .ref mW, .ref mL, .int lS])), (mH, .inl (cI, 512, .inl fH)), (mI, .inl (cL, 1200, .inr (.inl fI))), (mJ, .inl (cI, 4, .inl (k4i j0 j1 j2 j3))), (mS, .inl (cI, 4, .inl (k4i s0 s1 s2 s3))), (mD, .inl (cL, 256, .inr (.inl fD)))]) A) args s 0 0 A) (F0 m 95 ls []) := by
                                          intro k
                                          induction k with
                                          | zero =>
                                            intro ii h hm
                                            exact absurd hm (Nat.not_lt_zero _)
                                          | succ k ih =>
                                            intro ii h hm hii H locs hP hD hS ls hl
                                            refine lv_iload hx hb dX8_digest_95 (lv_at hl 0 rfl) ?_
                                            refine lv_aload_n hx hb dX8_digest_97 rfl (lv_at hl 3 rfl) ?_
                                            refine va_get (D := D) (ci := 8) (v := .ref mJ) (C := RX8) (T := TX8) (N := 31) hx hb hts iX8_digest_X8 hown hK hP 0 rfl rfl 15 (by decide) (hts (.fieldLink RX8 17 "TapeCalculatorModel" "items" "[I") (List.mem_of_getElem? (i := 4) rfl)) (fun _ h9 => h9) rfl dX8_digest_98 ?_
                                            refine lv_iload_n hx hb dX8_digest_101 rfl (lv_at hl 2 rfl) ?_
                                            refine va_iald hx hb hK hP 3 0 rfl rfl (vp_in_iff.mpr (by decide)) dX8_digest_102 ?_
                                            refine lv_topi (fun x_25 ex_25 => ?_)
                                            obtain rfl : j3 = x_25 := ex_25.symm
                                            refine lv_icmp_ge (tgt := 132) hx hb dX8_digest_103 (by decide) (fun c_103_25 => ?_) (fun c_103_25 => ?_)
                                            · have t_103_25 := c_103_25
                                              try simp only [kb_eq0, kb_ne0, lg_cmp_lt, lg_cmp_le, lg_cmp_gt, lg_cmp_ge, lg_cmp_eq] at t_103_25
                                              try simp only [Int32.lt_iff_toInt_lt, Int32.le_iff_toInt_le, ← Int32.toInt_inj, Int64.lt_iff_toInt_lt, Int64.le_iff_toInt_le, ← Int64.toInt_inj, Int32.toInt_toInt64, Int32.reduceToInt, Int64.reduceToInt] at t_103_25
                                              refine lv_iinc (v := 4) (lv' := [(3, .int 4), (4, .int ii), (1, .long h), (0, .ref m0)]) hx hb dX8_digest_132 hl (k := 2) rfl (by decide) (by decide) rfl (fun ls hl => ?_)
                                              refine lv_goto (tgt := 61) hx hb dX8_digest_135 (by decide) ?_
                                              refine lv_iload_n hx hb dX8_digest_61 rfl (lv_at hl 0 rfl) ?_
                                              refine lv_iconst (v := 4) hx hb dX8_digest_62 (by decide) ?_
                                              refine lv_icmp_ge (tgt := 138) hx hb dX8_digest_63 (by decide) (fun c_63_26 => ?_) (fun c_63_26 => ?_)
                                              · have t_63_26 := c_63_26
                                                try simp only [kb_eq0, kb_ne0, lg_cmp_lt, lg_cmp_le, lg_cmp_gt, lg_cmp_ge, lg_cmp_eq] at t_63_26
                                                try simp only [Int32.lt_iff_toInt_lt, Int32.le_iff_toInt_le, ← Int32.toInt_inj, Int64.lt_iff_toInt_lt, Int64.le_iff_toInt_le, ← Int64.toInt_inj, Int32.toInt_toInt64, Int32.reduceToInt, Int64.reduceToInt] at t_63_26
                                                refine lv_iconst (v := 0) hx hb dX8_digest_138 (by decide) ?_
                                                refine lv_istore_n (lv' := [(3, .int 0), (4, .int ii), (1, .long h), (0, .ref m0)]) hx hb dX8_digest_139 rfl hl (by decide) rfl (fun ls hl => ?_)
                                                have J140 : ∀ (k : Nat) (jj : Int32) (h : Int64), (256 - jj.toInt).toNat < k → 0 ≤ jj.toInt → ∀ (H : Heap) (locs : List Loc), va_P D vwCl [(m0, .inr (8, [.ref mH, .int aM, .long aC, .int mM, .long mQ, .int oV, .int pL, .int lI, .int sW, .int dP, .int sT, .long aT, .int cH, .int iW, .ref mI, .ref mJ, .ref mS, .ref mD, .int iH, .int aE, .int mN, .long sZ, .ref mX, .int tS, .int tA, .int tW, .ref mA, .ref mB, .ref mW, .ref mL, .int lS])), (mH, .inl (cI, 512, .inl fH)), (mI, .inl (cL, 1200, .inr (.inl fI))), (mJ, .inl (cI, 4, .inl (k4i j0 j1 j2 j3))), (mS, .inl (cI, 4, .inl (k4i s0 s1 s2 s3))), (mD, .inl (cL, 256, .inr (.inl fD)))] H → va_D A [(m0, .inr (8, [.ref mH, .int aM, .long aC, .int mM, .long mQ, .int oV, .int pL, .int lI, .int sW, .int dP, .int sT, .long aT, .int cH, .int iW, .ref mI, .ref mJ, .ref mS, .ref mD, .int iH, .int aE, .int mN, .long sZ, .ref mX, .int tS, .int tA, .int tW, .ref mA, .ref mB, .ref mW, .ref mL, .int lS])), (mH, .inl (cI, 512, .inl fH)), (mI, .inl (cL, 1200, .inr (.inl fI))), (mJ, .inl (cI, 4, .inl (k4i j0 j1 j2 j3))), (mS, .inl (cI, 4, .inl (k4i s0 s1 s2 s3))), (mD, .inl (cL, 256, .inr (.inl fD)))] → va_S A s.heap H locs → ∀ ls : Array Slot, lv_has ls 5 [(3, .int jj), (4, .int ii), (1, .long h), (0, .ref m0)] → W p l e ({ frames := 1, cells := 0, slots := 0, locals := 21 }) s m args below meth c H locs 0 0 (MQ below (kQ (S := Unit) eL (fun _ _ => True) D (fun _ => [(m0, .inr (8, [.ref mH, .int aM, .long aC, .int mM, .long mQ, .int oV, .int pL, .int lI, .int sW, .int dP, .int sT, .long aT, .int cH, .int iW, .ref mI, .ref mJ, .ref mS, .ref mD, .int iH, .int aE, .int mN, .long sZ, .ref mX, .int tS, .int tA, .int tW, .ref mA, .ref mB, .ref mW, .ref mL, .int lS])), (mH, .inl (cI, 512, .inl fH)), (mI, .inl (cL, 1200, .inr (.inl fI))), (mJ, .inl (cI, 4, .inl (k4i j0 j1 j2 j3))), (mS, .inl (cI, 4, .inl (k4i s0 s1 s2 s3))), (mD, .inl (cL, 256, .inr (.inl fD)))]) A) args s 0 0 A) (F0 m 140 ls []) := by
                                                  intro k
                                                  induction k with
                                                  | zero =>
                                                    intro jj h hm
                                                    exact absurd hm (Nat.not_lt_zero _)
                                                  | succ k ih =>
                                                    intro jj h hm hjj H locs hP hD hS ls hl
                                                    refine lv_iload_n hx hb dX8_digest_140 rfl (lv_at hl 0 rfl) ?_
                                                    refine lv_sipush (v := 256) hx hb dX8_digest_141 (by decide) ?_
                                                    refine lv_icmp_ge (tgt := 166) hx hb dX8_digest_144 (by decide) (fun c_144_27 => ?_) (fun c_144_27 => ?_)
                                                    · have t_144_27 := c_144_27
                                                      try simp only [kb_eq0, kb_ne0, lg_cmp_lt, lg_cmp_le, lg_cmp_gt, lg_cmp_ge, lg_cmp_eq] at t_144_27
                                                      try simp only [Int32.lt_iff_toInt_lt, Int32.le_iff_toInt_le, ← Int32.toInt_inj, Int64.lt_iff_toInt_lt, Int64.le_iff_toInt_le, ← Int64.toInt_inj, Int32.toInt_toInt64, Int32.reduceToInt, Int64.reduceToInt] at t_144_27
                                                      refine lv_lload_n hx hb dX8_digest_166 rfl (lv_at hl 2 rfl) ?_
                                                      refine kLret (u := ()) hx hb hr hlocks hS dX8_digest_167 ?_ (hP.sub [0, 1, 2, 3, 4, 5] rfl) (hD.sub [0, 1, 2, 3, 4, 5] (by decide) rfl)
                                                      exact trivial
                                                    · have t_144_27 := c_144_27
                                                      try simp only [kb_eq0, kb_ne0, lg_cmp_lt, lg_cmp_le, lg_cmp_gt, lg_cmp_ge, lg_cmp_eq] at t_144_27
                                                      try simp only [Int32.lt_iff_toInt_lt, Int32.le_iff_toInt_le, ← Int32.toInt_inj, Int64.lt_iff_toInt_lt, Int64.le_iff_toInt_le, ← Int64.toInt_inj, Int32.toInt_toInt64, Int32.reduceToInt, Int64.reduceToInt] at t_144_27
                                                      refine lv_ldc2 (v := 31) hx hb hown (hts (.constantLong RX8 293 (31)) (List.mem_of_getElem? (i := 2) rfl)) dX8_digest_147 ?_
                                                      refine lv_lload_n hx hb dX8_digest_150 rfl (lv_at hl 2 rfl) ?_
                                                      refine lv_lmul hx hb dX8_digest_151 ?_
                                                      refine lv_aload_n hx hb dX8_digest_152 rfl (lv_at hl 3 rfl) ?_
                                                      refine va_get (D := D) (ci := 8) (v := .ref mD) (C := RX8) (T := TX8) (N := 31) hx hb hts iX8_digest_X8 hown hK hP 0 rfl rfl 17 (by decide) (hts (.fieldLink RX8 23 "TapeCalculatorModel" "drum" "[J") (List.mem_of_getElem? (i := 7) rfl)) (fun _ h9 => h9) rfl dX8_digest_153 ?_
                                                      refine lv_iload_n hx hb dX8_digest_156 rfl (lv_at hl 0 rfl) ?_
                                                      refine va_lald hx hb hK hP 5 1 rfl rfl (vp_in_iff.mpr (by omega)) dX8_digest_157 ?_
                                                      refine lv_ladd hx hb dX8_digest_158 ?_
                                                      refine lv_topl (fun x_29 ex_29 => ?_)
                                                      refine lv_lstore_n (lv' := [(1, .long x_29), (3, .int jj), (4, .int ii), (0, .ref m0)]) hx hb dX8_digest_159 rfl hl (by decide) rfl (fun ls hl => ?_)
                                                      obtain ⟨x_30, ex_30⟩ : ∃ y : Int32, y = jj + 1 := ⟨_, rfl⟩
                                                      refine lv_iinc (v := x_30) (lv' := [(3, .int x_30), (1, .long x_29), (4, .int ii), (0, .ref m0)]) hx hb dX8_digest_160 hl (k := 1) rfl (by rw [ex_30]; rfl) (by decide) rfl (fun ls hl => ?_)
                                                      refine lv_goto (tgt := 140) hx hb dX8_digest_163 (by decide) ?_
                                                      have hz0 : (256 : Int32).toInt = 256 := by decide
                                                      have hd := k_inc (i := jj) (n := 256) (by omega)
                                                      rw [← ex_30] at hd
                                                      exact ih x_30 x_29 (by omega) (by omega) _ _ (hP.sub [0, 1, 2, 3, 4, 5] rfl) (hD.sub [0, 1, 2, 3, 4, 5] (by decide) rfl) hS ls (lv_sub hl [0, 2, 1, 3] rfl)
                                                have hz0 : (0 : Int32).toInt = 0 := by decide
                                                exact J140 _ 0 h (Nat.lt_succ_self _) (by omega) _ _ (hP.sub [0, 1, 2, 3, 4, 5] rfl) (hD.sub [0, 1, 2, 3, 4, 5] (by decide) rfl) hS ls (lv_sub hl [0, 1, 2, 3] rfl)
                                              · exact absurd (by decide) c_63_26
                                            · have t_103_25 := c_103_25
                                              try simp only [kb_eq0, kb_ne0, lg_cmp_lt, lg_cmp_le, lg_cmp_gt, lg_cmp_ge, lg_cmp_eq] at t_103_25
                                              try simp only [Int32.lt_iff_toInt_lt, Int32.le_iff_toInt_le, ← Int32.toInt_inj, Int64.lt_iff_toInt_lt, Int64.le_iff_toInt_le, ← Int64.toInt_inj, Int32.toInt_toInt64, Int32.reduceToInt, Int64.reduceToInt] at t_103_25
                                              refine lv_ldc2 (v := 31) hx hb hown (hts (.constantLong RX8 293 (31)) (List.mem_of_getElem? (i := 2) rfl)) dX8_digest_106 ?_
                                              refine lv_lload_n hx hb dX8_digest_109 rfl (lv_at hl 1 rfl) ?_
                                              refine lv_lmul hx hb dX8_digest_110 ?_
                                              refine lv_aload_n hx hb dX8_digest_111 rfl (lv_at hl 3 rfl) ?_
                                              refine va_get (D := D) (ci := 8) (v := .ref mI) (C := RX8) (T := TX8) (N := 31) hx hb hts iX8_digest_X8 hown hK hP 0 rfl rfl 14 (by decide) (hts (.fieldLink RX8 13 "TapeCalculatorModel" "item" "[J") (List.mem_of_getElem? (i := 6) rfl)) (fun _ h9 => h9) rfl dX8_digest_112 ?_
                                              refine lv_sipush (v := 300) hx hb dX8_digest_115 (by decide) ?_
                                              refine lv_iload_n hx hb dX8_digest_118 rfl (lv_at hl 2 rfl) ?_
                                              refine lv_imul hx hb dX8_digest_119 ?_
                                              refine lv_topi (fun x_31 ex_31 => ?_)
                                              obtain rfl : x_31 = 900 := ex_31.trans (by decide)
                                              refine lv_iload hx hb dX8_digest_120 (lv_at hl 0 rfl) ?_
                                              refine lv_iadd hx hb dX8_digest_122 ?_
                                              refine va_lald hx hb hK hP 2 1 rfl rfl (vp_in_iff.mpr (by have hx9 := k_addg (a := 900) (b := ii) (by decide) (by omega); simp only [Int32.reduceToInt] at hx9; omega)) dX8_digest_123 ?_
                                              refine lv_ladd hx hb dX8_digest_124 ?_
                                              refine lv_topl (fun x_32 ex_32 => ?_)
                                              refine lv_lstore_n (lv' := [(1, .long x_32), (4, .int ii), (3, .int 3), (0, .ref m0)]) hx hb dX8_digest_125 rfl hl (by decide) rfl (fun ls hl => ?_)
                                              obtain ⟨x_33, ex_33⟩ : ∃ y : Int32, y = ii + 1 := ⟨_, rfl⟩
                                              refine lv_iinc (v := x_33) (lv' := [(4, .int x_33), (1, .long x_32), (3, .int 3), (0, .ref m0)]) hx hb dX8_digest_126 hl (k := 1) rfl (by rw [ex_33]; rfl) (by decide) rfl (fun ls hl => ?_)
                                              refine lv_goto (tgt := 95) hx hb dX8_digest_129 (by decide) ?_
                                              have hd := k_inc (i := ii) (n := j3) (by omega)
                                              rw [← ex_33] at hd
                                              exact ih x_33 x_32 (by omega) (by omega) _ _ (hP.sub [0, 1, 2, 3, 4, 5] rfl) (hD.sub [0, 1, 2, 3, 4, 5] (by decide) rfl) hS ls (lv_sub hl [0, 1, 2, 3] rfl)
                                        have hz0 : (0 : Int32).toInt = 0 := by decide
                                        exact J95 _ 0 x_24 (Nat.lt_succ_self _) (by omega) _ _ (hP.sub [0, 1, 2, 3, 4, 5] rfl) (hD.sub [0, 1, 2, 3, 4, 5] (by decide) rfl) hS ls (lv_sub hl [0, 1, 2, 3] rfl)
                                    · have t_103_19 := c_103_19
                                      try simp only [kb_eq0, kb_ne0, lg_cmp_lt, lg_cmp_le, lg_cmp_gt, lg_cmp_ge, lg_cmp_eq] at t_103_19
                                      try simp only [Int32.lt_iff_toInt_lt, Int32.le_iff_toInt_le, ← Int32.toInt_inj, Int64.lt_iff_toInt_lt, Int64.le_iff_toInt_le, ← Int64.toInt_inj, Int32.toInt_toInt64, Int32.reduceToInt, Int64.reduceToInt] at t_103_19
                                      refine lv_ldc2 (v := 31) hx hb hown (hts (.constantLong RX8 293 (31)) (List.mem_of_getElem? (i := 2) rfl)) dX8_digest_106 ?_
                                      refine lv_lload_n hx hb dX8_digest_109 rfl (lv_at hl 1 rfl) ?_
                                      refine lv_lmul hx hb dX8_digest_110 ?_
                                      refine lv_aload_n hx hb dX8_digest_111 rfl (lv_at hl 3 rfl) ?_
                                      refine va_get (D := D) (ci := 8) (v := .ref mI) (C := RX8) (T := TX8) (N := 31) hx hb hts iX8_digest_X8 hown hK hP 0 rfl rfl 14 (by decide) (hts (.fieldLink RX8 13 "TapeCalculatorModel" "item" "[J") (List.mem_of_getElem? (i := 6) rfl)) (fun _ h9 => h9) rfl dX8_digest_112 ?_
                                      refine lv_sipush (v := 300) hx hb dX8_digest_115 (by decide) ?_
                                      refine lv_iload_n hx hb dX8_digest_118 rfl (lv_at hl 2 rfl) ?_
                                      refine lv_imul hx hb dX8_digest_119 ?_
                                      refine lv_topi (fun x_34 ex_34 => ?_)
                                      obtain rfl : x_34 = 600 := ex_34.trans (by decide)
                                      refine lv_iload hx hb dX8_digest_120 (lv_at hl 0 rfl) ?_
                                      refine lv_iadd hx hb dX8_digest_122 ?_
                                      refine va_lald hx hb hK hP 2 1 rfl rfl (vp_in_iff.mpr (by have hx9 := k_addg (a := 600) (b := ii) (by decide) (by omega); simp only [Int32.reduceToInt] at hx9; omega)) dX8_digest_123 ?_
                                      refine lv_ladd hx hb dX8_digest_124 ?_
                                      refine lv_topl (fun x_35 ex_35 => ?_)
                                      refine lv_lstore_n (lv' := [(1, .long x_35), (4, .int ii), (3, .int 2), (0, .ref m0)]) hx hb dX8_digest_125 rfl hl (by decide) rfl (fun ls hl => ?_)
                                      obtain ⟨x_36, ex_36⟩ : ∃ y : Int32, y = ii + 1 := ⟨_, rfl⟩
                                      refine lv_iinc (v := x_36) (lv' := [(4, .int x_36), (1, .long x_35), (3, .int 2), (0, .ref m0)]) hx hb dX8_digest_126 hl (k := 1) rfl (by rw [ex_36]; rfl) (by decide) rfl (fun ls hl => ?_)
                                      refine lv_goto (tgt := 95) hx hb dX8_digest_129 (by decide) ?_
                                      have hd := k_inc (i := ii) (n := j2) (by omega)
                                      rw [← ex_36] at hd
                                      exact ih x_36 x_35 (by omega) (by omega) _ _ (hP.sub [0, 1, 2, 3, 4, 5] rfl) (hD.sub [0, 1, 2, 3, 4, 5] (by decide) rfl) hS ls (lv_sub hl [0, 1, 2, 3] rfl)
                                have hz0 : (0 : Int32).toInt = 0 := by decide
                                exact J95 _ 0 x_18 (Nat.lt_succ_self _) (by omega) _ _ (hP.sub [0, 1, 2, 3, 4, 5] rfl) (hD.sub [0, 1, 2, 3, 4, 5] (by decide) rfl) hS ls (lv_sub hl [0, 1, 2, 3] rfl)
                            · have t_103_13 := c_103_13
                              try simp only [kb_eq0, kb_ne0, lg_cmp_lt, lg_cmp_le, lg_cmp_gt, lg_cmp_ge, lg_cmp_eq] at t_103_13
                              try simp only [Int32.lt_iff_toInt_lt, Int32.le_iff_toInt_le, ← Int32.toInt_inj, Int64.lt_iff_toInt_lt, Int64.le_iff_toInt_le, ← Int64.toInt_inj, Int32.toInt_toInt64, Int32.reduceToInt, Int64.reduceToInt] at t_103_13
                              refine lv_ldc2 (v := 31) hx hb hown (hts (.constantLong RX8 293 (31)) (List.mem_of_getElem? (i := 2) rfl)) dX8_digest_106 ?_
                              refine lv_lload_n hx hb dX8_digest_109 rfl (lv_at hl 1 rfl) ?_
                              refine lv_lmul hx hb dX8_digest_110 ?_
                              refine lv_aload_n hx hb dX8_digest_111 rfl (lv_at hl 3 rfl) ?_
                              refine va_get (D := D) (ci := 8) (v := .ref mI) (C := RX8) (T := TX8) (N := 31) hx hb hts iX8_digest_X8 hown hK hP 0 rfl rfl 14 (by decide) (hts (.fieldLink RX8 13 "TapeCalculatorModel" "item" "[J") (List.mem_of_getElem? (i := 6) rfl)) (fun _ h9 => h9) rfl dX8_digest_112 ?_
                              refine lv_sipush (v := 300) hx hb dX8_digest_115 (by decide) ?_
                              refine lv_iload_n hx hb dX8_digest_118 rfl (lv_at hl 2 rfl) ?_
                              refine lv_imul hx hb dX8_digest_119 ?_
                              refine lv_topi (fun x_37 ex_37 => ?_)
                              obtain rfl : x_37 = 300 := ex_37.trans (by decide)
                              refine lv_iload hx hb dX8_digest_120 (lv_at hl 0 rfl) ?_
                              refine lv_iadd hx hb dX8_digest_122 ?_
                              refine va_lald hx hb hK hP 2 1 rfl rfl (vp_in_iff.mpr (by have hx9 := k_addg (a := 300) (b := ii) (by decide) (by omega); simp only [Int32.reduceToInt] at hx9; omega)) dX8_digest_123 ?_
                              refine lv_ladd hx hb dX8_digest_124 ?_
                              refine lv_topl (fun x_38 ex_38 => ?_)
                              refine lv_lstore_n (lv' := [(1, .long x_38), (4, .int ii), (3, .int 1), (0, .ref m0)]) hx hb dX8_digest_125 rfl hl (by decide) rfl (fun ls hl => ?_)
                              obtain ⟨x_39, ex_39⟩ : ∃ y : Int32, y = ii + 1 := ⟨_, rfl⟩
                              refine lv_iinc (v := x_39) (lv' := [(4, .int x_39), (1, .long x_38), (3, .int 1), (0, .ref m0)]) hx hb dX8_digest_126 hl (k := 1) rfl (by rw [ex_39]; rfl) (by decide) rfl (fun ls hl => ?_)
                              refine lv_goto (tgt := 95) hx hb dX8_digest_129 (by decide) ?_
                              have hd := k_inc (i := ii) (n := j1) (by omega)
                              rw [← ex_39] at hd
                              exact ih x_39 x_38 (by omega) (by omega) _ _ (hP.sub [0, 1, 2, 3, 4, 5] rfl) (hD.sub [0, 1, 2, 3, 4, 5] (by decide) rfl) hS ls (lv_sub hl [0, 1, 2, 3] rfl)
                        have hz0 : (0 : Int32).toInt = 0 := by decide
                        exact J95 _ 0 x_12 (Nat.lt_succ_self _) (by omega) _ _ (hP.sub [0, 1, 2, 3, 4, 5] rfl) (hD.sub [0, 1, 2, 3, 4, 5] (by decide) rfl) hS ls (lv_sub hl [0, 1, 2, 3] rfl)
                    · have t_103_7 := c_103_7
                      try simp only [kb_eq0, kb_ne0, lg_cmp_lt, lg_cmp_le, lg_cmp_gt, lg_cmp_ge, lg_cmp_eq] at t_103_7
                      try simp only [Int32.lt_iff_toInt_lt, Int32.le_iff_toInt_le, ← Int32.toInt_inj, Int64.lt_iff_toInt_lt, Int64.le_iff_toInt_le, ← Int64.toInt_inj, Int32.toInt_toInt64, Int32.reduceToInt, Int64.reduceToInt] at t_103_7
                      refine lv_ldc2 (v := 31) hx hb hown (hts (.constantLong RX8 293 (31)) (List.mem_of_getElem? (i := 2) rfl)) dX8_digest_106 ?_
                      refine lv_lload_n hx hb dX8_digest_109 rfl (lv_at hl 1 rfl) ?_
                      refine lv_lmul hx hb dX8_digest_110 ?_
                      refine lv_aload_n hx hb dX8_digest_111 rfl (lv_at hl 3 rfl) ?_
                      refine va_get (D := D) (ci := 8) (v := .ref mI) (C := RX8) (T := TX8) (N := 31) hx hb hts iX8_digest_X8 hown hK hP 0 rfl rfl 14 (by decide) (hts (.fieldLink RX8 13 "TapeCalculatorModel" "item" "[J") (List.mem_of_getElem? (i := 6) rfl)) (fun _ h9 => h9) rfl dX8_digest_112 ?_
                      refine lv_sipush (v := 300) hx hb dX8_digest_115 (by decide) ?_
                      refine lv_iload_n hx hb dX8_digest_118 rfl (lv_at hl 2 rfl) ?_
                      refine lv_imul hx hb dX8_digest_119 ?_
                      refine lv_topi (fun x_40 ex_40 => ?_)
                      obtain rfl : x_40 = 0 := ex_40.trans (by decide)
                      refine lv_iload hx hb dX8_digest_120 (lv_at hl 0 rfl) ?_
                      refine lv_iadd hx hb dX8_digest_122 ?_
                      refine va_lald hx hb hK hP 2 1 rfl rfl (vp_in_iff.mpr (by have hx9 := k_addg (a := 0) (b := ii) (by decide) (by omega); simp only [Int32.reduceToInt] at hx9; omega)) dX8_digest_123 ?_
                      refine lv_ladd hx hb dX8_digest_124 ?_
                      refine lv_topl (fun x_41 ex_41 => ?_)
                      refine lv_lstore_n (lv' := [(1, .long x_41), (4, .int ii), (3, .int 0), (0, .ref m0)]) hx hb dX8_digest_125 rfl hl (by decide) rfl (fun ls hl => ?_)
                      obtain ⟨x_42, ex_42⟩ : ∃ y : Int32, y = ii + 1 := ⟨_, rfl⟩
                      refine lv_iinc (v := x_42) (lv' := [(4, .int x_42), (1, .long x_41), (3, .int 0), (0, .ref m0)]) hx hb dX8_digest_126 hl (k := 1) rfl (by rw [ex_42]; rfl) (by decide) rfl (fun ls hl => ?_)
                      refine lv_goto (tgt := 95) hx hb dX8_digest_129 (by decide) ?_
                      have hd := k_inc (i := ii) (n := j0) (by omega)
                      rw [← ex_42] at hd
                      exact ih x_42 x_41 (by omega) (by omega) _ _ (hP.sub [0, 1, 2, 3, 4, 5] rfl) (hD.sub [0, 1, 2, 3, 4, 5] (by decide) rfl) hS ls (lv_sub hl [0, 1, 2, 3] rfl)
                have hz0 : (0 : Int32).toInt = 0 := by decide
                exact J95 _ 0 x_6 (Nat.lt_succ_self _) (by omega) _ _ (hP.sub [0, 1, 2, 3, 4, 5] rfl) (hD.sub [0, 1, 2, 3, 4, 5] (by decide) rfl) hS ls (lv_sub hl [0, 1, 2, 3] rfl)
            · have t_38_1 := c_38_1
              try simp only [kb_eq0, kb_ne0, lg_cmp_lt, lg_cmp_le, lg_cmp_gt, lg_cmp_ge, lg_cmp_eq] at t_38_1
              try simp only [Int32.lt_iff_toInt_lt, Int32.le_iff_toInt_le, ← Int32.toInt_inj, Int64.lt_iff_toInt_lt, Int64.le_iff_toInt_le, ← Int64.toInt_inj, Int32.toInt_toInt64, Int32.reduceToInt, Int64.reduceToInt] at t_38_1
              refine lv_ldc2 (v := 31) hx hb hown (hts (.constantLong RX8 293 (31)) (List.mem_of_getElem? (i := 2) rfl)) dX8_digest_41 ?_
              refine lv_lload_n hx hb dX8_digest_44 rfl (lv_at hl 1 rfl) ?_
              refine lv_lmul hx hb dX8_digest_45 ?_
              refine lv_aload_n hx hb dX8_digest_46 rfl (lv_at hl 2 rfl) ?_
              refine lv_iload_n hx hb dX8_digest_47 rfl (lv_at hl 0 rfl) ?_
              refine kCallL (wr := [(mH, .inl (cI, 512, .inl fH)), (mI, .inl (cL, 1200, .inr (.inl fI))), (mJ, .inl (cI, 4, .inl (k4i j0 j1 j2 j3))), (mS, .inl (cI, 4, .inl (k4i s0 s1 s2 s3))), (mD, .inl (cL, 256, .inr (.inl fD)))]) (va_runV (As := [.int jj]) (rest := [.long (31 * h)]) ⟨hx, hb, hml, hown, hts⟩ (q_told l D cI cL cB cZ cT _ m0 mH mI mJ mS mD mX mA mB mW mL aM aC mM mQ oV pL lI sW dP sT aT cH iW iH aE mN sZ tS tA tW lS jj) (cwV 1 hts gX8_digest_X8_told rfl rfl rfl (by decide +kernel) ⟨Nat.le_of_ble_eq_true rfl, Nat.le_of_ble_eq_true rfl⟩) (kPreV hG hP hD [0] rfl (by decide) 0 8 rfl rfl rfl) rfl rfl hl.1 rfl (lv_room (Nat.le_of_ble_eq_true rfl)) dX8_digest_48 ⟨Nat.le_of_ble_eq_true rfl, Nat.le_of_ble_eq_true rfl⟩) hA hP hD hS [0] [1, 2, 3, 4, 5] rfl rfl (by decide) (by decide) (fun r_43 u_r_43 H locs wr_43 hP hD hS => ?_)
              have hP : va_P D vwCl [(mH, .inl (cI, 512, .inl fH)), (mI, .inl (cL, 1200, .inr (.inl fI))), (mJ, .inl (cI, 4, .inl (k4i j0 j1 j2 j3))), (mS, .inl (cI, 4, .inl (k4i s0 s1 s2 s3))), (mD, .inl (cL, 256, .inr (.inl fD))), (m0, .inr (8, [.ref mH, .int aM, .long aC, .int mM, .long mQ, .int oV, .int pL, .int lI, .int sW, .int dP, .int sT, .long aT, .int cH, .int iW, .ref mI, .ref mJ, .ref mS, .ref mD, .int iH, .int aE, .int mN, .long sZ, .ref mX, .int tS, .int tA, .int tW, .ref mA, .ref mB, .ref mW, .ref mL, .int lS]))] H := hP
              have hD : va_D A [(mH, .inl (cI, 512, .inl fH)), (mI, .inl (cL, 1200, .inr (.inl fI))), (mJ, .inl (cI, 4, .inl (k4i j0 j1 j2 j3))), (mS, .inl (cI, 4, .inl (k4i s0 s1 s2 s3))), (mD, .inl (cL, 256, .inr (.inl fD))), (m0, .inr (8, [.ref mH, .int aM, .long aC, .int mM, .long mQ, .int oV, .int pL, .int lI, .int sW, .int dP, .int sT, .long aT, .int cH, .int iW, .ref mI, .ref mJ, .ref mS, .ref mD, .int iH, .int aE, .int mN, .long sZ, .ref mX, .int tS, .int tA, .int tW, .ref mA, .ref mB, .ref mW, .ref mL, .int lS]))] := hD
              try dsimp only at wr_43
              try simp only [Int32.reduceToInt, Int64.reduceToInt] at wr_43
              refine lv_ladd hx hb dX8_digest_51 ?_
              refine lv_topl (fun x_44 ex_44 => ?_)
              refine lv_lstore_n (lv' := [(1, .long x_44), (3, .int jj), (0, .ref m0)]) hx hb dX8_digest_52 rfl hl (by decide) rfl (fun ls hl => ?_)
              obtain ⟨x_45, ex_45⟩ : ∃ y : Int32, y = jj + 1 := ⟨_, rfl⟩
              refine lv_iinc (v := x_45) (lv' := [(3, .int x_45), (1, .long x_44), (0, .ref m0)]) hx hb dX8_digest_53 hl (k := 1) rfl (by rw [ex_45]; rfl) (by decide) rfl (fun ls hl => ?_)
              refine lv_goto (tgt := 35) hx hb dX8_digest_56 (by decide) ?_
              have hz0 : (10 : Int32).toInt = 10 := by decide
              have hd := k_inc (i := jj) (n := 10) (by omega)
              rw [← ex_45] at hd
              exact ih x_45 x_44 (by omega) (by omega) _ _ (hP.sub [5, 0, 1, 2, 3, 4] rfl) (hD.sub [5, 0, 1, 2, 3, 4] (by decide) rfl) hS ls (lv_sub hl [0, 1, 2] rfl)
        have hz0 : (0 : Int32).toInt = 0 := by decide
        exact J35 _ 0 h (Nat.lt_succ_self _) (by omega) _ _ (hP.sub [0, 1, 2, 3, 4, 5] rfl) (hD.sub [0, 1, 2, 3, 4, 5] (by decide) rfl) hS ls (lv_sub hl [0, 1, 2] rfl)
      · have t_10_0 := c_10_0
        try simp only [kb_eq0, kb_ne0, lg_cmp_lt, lg_cmp_le, lg_cmp_gt, lg_cmp_ge, lg_cmp_eq] at t_10_0
        try simp only [Int32.lt_iff_toInt_lt, Int32.le_iff_toInt_le, ← Int32.toInt_inj, Int64.lt_iff_toInt_lt, Int64.le_iff_toInt_le, ← Int64.toInt_inj, Int32.toInt_toInt64, Int32.reduceToInt, Int64.reduceToInt] at t_10_0
        refine lv_ldc2 (v := 31) hx hb hown (hts (.constantLong RX8 293 (31)) (List.mem_of_getElem? (i := 2) rfl)) dX8_digest_13 ?_
        refine lv_lload_n hx hb dX8_digest_16 rfl (lv_at hl 1 rfl) ?_
        refine lv_lmul hx hb dX8_digest_17 ?_
        refine lv_aload_n hx hb dX8_digest_18 rfl (lv_at hl 2 rfl) ?_
        refine va_get (D := D) (ci := 8) (v := .ref mH) (C := RX8) (T := TX8) (N := 31) hx hb hts iX8_digest_X8 hown hK hP 0 rfl rfl 0 (by decide) (hts (.fieldLink RX8 7 "TapeCalculatorModel" "half" "[I") (List.mem_of_getElem? (i := 3) rfl)) (fun _ h9 => h9) rfl dX8_digest_19 ?_
        refine lv_iload_n hx hb dX8_digest_22 rfl (lv_at hl 0 rfl) ?_
        refine va_iald hx hb hK hP 1 0 rfl rfl (vp_in_iff.mpr (by omega)) dX8_digest_23 ?_
        refine lv_i2l hx hb dX8_digest_24 rfl ?_
        refine lv_ladd hx hb dX8_digest_25 ?_
        refine lv_topl (fun x_46 ex_46 => ?_)
        refine lv_lstore_n (lv' := [(1, .long x_46), (3, .int jj), (0, .ref m0)]) hx hb dX8_digest_26 rfl hl (by decide) rfl (fun ls hl => ?_)
        obtain ⟨x_47, ex_47⟩ : ∃ y : Int32, y = jj + 1 := ⟨_, rfl⟩
        refine lv_iinc (v := x_47) (lv' := [(3, .int x_47), (1, .long x_46), (0, .ref m0)]) hx hb dX8_digest_27 hl (k := 1) rfl (by rw [ex_47]; rfl) (by decide) rfl (fun ls hl => ?_)
        refine lv_goto (tgt := 6) hx hb dX8_digest_30 (by decide) ?_
        have hz0 : (512 : Int32).toInt = 512 := by decide
        have hd := k_inc (i := jj) (n := 512) (by omega)
        rw [← ex_47] at hd
        exact ih x_47 x_46 (by omega) (by omega) _ _ (hP.sub [0, 1, 2, 3, 4, 5] rfl) (hD.sub [0, 1, 2, 3, 4, 5] (by decide) rfl) hS ls (lv_sub hl [0, 1, 2] rfl)
  have hz0 : (0 : Int32).toInt = 0 := by decide
  exact J6 _ 0 17 (Nat.lt_succ_self _) (by omega) _ _ (hP.sub [0, 1, 2, 3, 4, 5] rfl) (hD.sub [0, 1, 2, 3, 4, 5] (by decide) rfl) hS ls (lv_sub hl [0, 1, 2] rfl)
