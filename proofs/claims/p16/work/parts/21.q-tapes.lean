set_option maxRecDepth 100000 in
set_option maxHeartbeats 4000000 in
theorem q_isTape (l : Launch) (D : va_G) (cI cL cB cZ cT : ClassId) (sz : Nat) (m0 mH mI mJ mS mD mX mA mB mW mL : Nat) (aM : Int32) (aC : Int64) (mM : Int32) (mQ : Int64) (oV pL lI sW dP sT : Int32) (aT : Int64) (cH iW iH aE mN : Int32) (sZ : Int64) (tS tA tW lS : Int32) (t : Int32) : kM (S := Unit) l yX8_isTape wsX8_isTape ({ frames := 1, cells := 0, slots := 0, locals := 25 }) D (kT cI cL cB cZ cT) [.ref m0, .int t] [(m0, .inr (8, [.ref mH, .int aM, .long aC, .int mM, .long mQ, .int oV, .int pL, .int lI, .int sW, .int dP, .int sT, .long aT, .int cH, .int iW, .ref mI, .ref mJ, .ref mS, .ref mD, .int iH, .int aE, .int mN, .long sZ, .ref mX, .int tS, .int tA, .int tW, .ref mA, .ref mB, .ref mW, .ref mL, .int lS]))] sz eI (fun r _ => r = (kb (0 ≤ t.toInt ∧ t.toInt ≤ 3))) (fun _ => [(m0, .inr (8, [.ref mH, .int aM, .long aC, .int mM, .long mQ, .int oV, .int pL, .int lI, .int sW, .int dP, .int sT, .long aT, .int cH, .int iW, .ref mI, .ref mJ, .ref mS, .ref mD, .int iH, .int aE, .int mN, .long sZ, .ref mX, .int tS, .int tA, .int tW, .ref mA, .ref mB, .ref mW, .ref mL, .int lS]))]) 0 0 := by
  refine kStart (cc := cX8_isTape) (maxL := 2) (ret := (some .boolean)) (own := RX8) (by decide) rfl rfl (Nat.le_of_ble_eq_true rfl) ?_
  intro p e s m args below meth c A ls hx hb hr hml hown hts hlocks hnm hsz hA hG hP hD hS hl
  have hK := hG.1
  have hl : lv_has ls 2 [(0, .ref m0), (1, .int t)] := hl
  refine lv_iload_n hx hb dX8_isTape_0 rfl (lv_at hl 1 rfl) ?_
  refine lv_i2l hx hb dX8_isTape_1 rfl ?_
  refine lv_lconst (v := 0) hx hb dX8_isTape_2 (by decide) ?_
  refine lv_ldc2 (v := 3) hx hb hown (hts (.constantLong RX8 101 (3)) (List.mem_of_getElem? (i := 1) rfl)) dX8_isTape_3 ?_
  refine kCallI (wr := [(m0, .inr (8, [.ref mH, .int aM, .long aC, .int mM, .long mQ, .int oV, .int pL, .int lI, .int sW, .int dP, .int sT, .long aT, .int cH, .int iW, .ref mI, .ref mJ, .ref mS, .ref mD, .int iH, .int aE, .int mN, .long sZ, .ref mX, .int tS, .int tA, .int tW, .ref mA, .ref mB, .ref mW, .ref mL, .int lS]))]) (va_runS (As := [.long t.toInt64, .long 0, .long 3]) (rest := []) ⟨hx, hb, hml, hown, hts⟩ (q_in l D cI cL cB cZ cT _ (t.toInt64) 0 3) (va_cwS 3 hts gX8_isTape_X8_in rfl rfl rfl (by decide +kernel) ⟨Nat.le_of_ble_eq_true rfl, Nat.le_of_ble_eq_true rfl⟩) (kPreS hG hP hD [] rfl (by decide)) rfl rfl hl.1 rfl (lv_room (Nat.le_of_ble_eq_true rfl)) dX8_isTape_6 ⟨Nat.le_of_ble_eq_true rfl, Nat.le_of_ble_eq_true rfl⟩) hA hP hD hS [] [0] rfl rfl (by decide) (by decide) (fun r_1 u_r_1 H locs wr_1 hP hD hS => ?_)
  have hP : va_P D vwCl [(m0, .inr (8, [.ref mH, .int aM, .long aC, .int mM, .long mQ, .int oV, .int pL, .int lI, .int sW, .int dP, .int sT, .long aT, .int cH, .int iW, .ref mI, .ref mJ, .ref mS, .ref mD, .int iH, .int aE, .int mN, .long sZ, .ref mX, .int tS, .int tA, .int tW, .ref mA, .ref mB, .ref mW, .ref mL, .int lS]))] H := hP
  have hD : va_D A [(m0, .inr (8, [.ref mH, .int aM, .long aC, .int mM, .long mQ, .int oV, .int pL, .int lI, .int sW, .int dP, .int sT, .long aT, .int cH, .int iW, .ref mI, .ref mJ, .ref mS, .ref mD, .int iH, .int aE, .int mN, .long sZ, .ref mX, .int tS, .int tA, .int tW, .ref mA, .ref mB, .ref mW, .ref mL, .int lS]))] := hD
  try dsimp only at wr_1
  subst wr_1
  refine kIret (u := ()) hx hb hr (kz_n (kb_z _)) hlocks hS dX8_isTape_9 ?_ (hP.sub [0] rfl) (hD.sub [0] (by decide) rfl)
  simp only [Int64.reduceToInt, Int32.toInt_toInt64]
set_option maxRecDepth 100000 in
theorem iX8_item_X8 : ∀ w ∈ wsX80, w ∈ wsX8_item := fun w h => (goodIn_r (big := wsX8_item) wsX80 [14, 15, 16, 17, 18, 19, 20, 21, 22, 23, 24, 25, 26, 27, 28, 29, 30, 31, 32, 33, 34, 35, 36, 37, 38, 39, 40, 41, 42, 43, 44] rfl (by decide +kernel) w h).1
set_option maxRecDepth 100000 in
set_option maxHeartbeats 4000000 in
theorem q_item (l : Launch) (D : va_G) (cI cL cB cZ cT : ClassId) (sz : Nat) (m0 mH mI mJ mS mD mX mA mB mW mL : Nat) (aM : Int32) (aC : Int64) (mM : Int32) (mQ : Int64) (oV pL lI sW dP sT : Int32) (aT : Int64) (cH iW iH aE mN : Int32) (sZ : Int64) (tS tA tW lS : Int32) (fI : Nat → Int64) (j0 j1 j2 j3 : Int32) (t i : Int32) (s0 s1 s2 s3 : Int32) (ht0 : jT_ s0 j0) (ht1 : jT_ s1 j1) (ht2 : jT_ s2 j2) (ht3 : jT_ s3 j3) : kM (S := Unit) l yX8_item wsX8_item ({ frames := 2, cells := 0, slots := 0, locals := 46 }) D (kT cI cL cB cZ cT) [.ref m0, .int t, .int i] [(m0, .inr (8, [.ref mH, .int aM, .long aC, .int mM, .long mQ, .int oV, .int pL, .int lI, .int sW, .int dP, .int sT, .long aT, .int cH, .int iW, .ref mI, .ref mJ, .ref mS, .ref mD, .int iH, .int aE, .int mN, .long sZ, .ref mX, .int tS, .int tA, .int tW, .ref mA, .ref mB, .ref mW, .ref mL, .int lS])), (mI, .inl (cL, 1200, .inr (.inl fI))), (mJ, .inl (cI, 4, .inl (k4i j0 j1 j2 j3)))] sz eL (fun _ _ => True) (fun _ => [(m0, .inr (8, [.ref mH, .int aM, .long aC, .int mM, .long mQ, .int oV, .int pL, .int lI, .int sW, .int dP, .int sT, .long aT, .int cH, .int iW, .ref mI, .ref mJ, .ref mS, .ref mD, .int iH, .int aE, .int mN, .long sZ, .ref mX, .int tS, .int tA, .int tW, .ref mA, .ref mB, .ref mW, .ref mL, .int lS])), (mI, .inl (cL, 1200, .inr (.inl fI))), (mJ, .inl (cI, 4, .inl (k4i j0 j1 j2 j3)))]) 0 0 := by
  refine kStart (cc := cX8_item) (maxL := 3) (ret := (some .long)) (own := RX8) (by decide) rfl rfl (Nat.le_of_ble_eq_true rfl) ?_
  intro p e s m args below meth c A ls hx hb hr hml hown hts hlocks hnm hsz hA hG hP hD hS hl
  have hK := hG.1
  have hl : lv_has ls 3 [(0, .ref m0), (1, .int t), (2, .int i)] := hl
  rcases ksw_0_3 t with hsw | rfl | rfl | rfl | rfl
  · refine lv_aload_n hx hb dX8_item_0 rfl (lv_at hl 0 rfl) ?_
    refine lv_iload_n hx hb dX8_item_1 rfl (lv_at hl 1 rfl) ?_
    refine kCallI (wr := [(mI, .inl (cL, 1200, .inr (.inl fI))), (mJ, .inl (cI, 4, .inl (k4i j0 j1 j2 j3)))]) (va_runV (As := [.int t]) (rest := []) ⟨hx, hb, hml, hown, hts⟩ (q_isTape l D cI cL cB cZ cT _ m0 mH mI mJ mS mD mX mA mB mW mL aM aC mM mQ oV pL lI sW dP sT aT cH iW iH aE mN sZ tS tA tW lS t) (cwV 1 hts gX8_item_X8_isTape rfl rfl rfl (by decide +kernel) ⟨Nat.le_of_ble_eq_true rfl, Nat.le_of_ble_eq_true rfl⟩) (kPreV hG hP hD [0] rfl (by decide) 0 8 rfl rfl rfl) rfl rfl hl.1 rfl (lv_room (Nat.le_of_ble_eq_true rfl)) dX8_item_2 ⟨Nat.le_of_ble_eq_true rfl, Nat.le_of_ble_eq_true rfl⟩) hA hP hD hS [0] [1, 2] rfl rfl (by decide) (by decide) (fun r_1 u_r_1 H locs wr_1 hP hD hS => ?_)
    have hP : va_P D vwCl [(mI, .inl (cL, 1200, .inr (.inl fI))), (mJ, .inl (cI, 4, .inl (k4i j0 j1 j2 j3))), (m0, .inr (8, [.ref mH, .int aM, .long aC, .int mM, .long mQ, .int oV, .int pL, .int lI, .int sW, .int dP, .int sT, .long aT, .int cH, .int iW, .ref mI, .ref mJ, .ref mS, .ref mD, .int iH, .int aE, .int mN, .long sZ, .ref mX, .int tS, .int tA, .int tW, .ref mA, .ref mB, .ref mW, .ref mL, .int lS]))] H := hP
    have hD : va_D A [(mI, .inl (cL, 1200, .inr (.inl fI))), (mJ, .inl (cI, 4, .inl (k4i j0 j1 j2 j3))), (m0, .inr (8, [.ref mH, .int aM, .long aC, .int mM, .long mQ, .int oV, .int pL, .int lI, .int sW, .int dP, .int sT, .long aT, .int cH, .int iW, .ref mI, .ref mJ, .ref mS, .ref mD, .int iH, .int aE, .int mN, .long sZ, .ref mX, .int tS, .int tA, .int tW, .ref mA, .ref mB, .ref mW, .ref mL, .int lS]))] := hD
    try dsimp only at wr_1
    subst wr_1
    refine lv_if_ne (tgt := 14) hx hb dX8_item_5 (by decide) (fun c_5_1 => ?_) (fun c_5_1 => ?_)
    · have t_5_1 := c_5_1
      try simp only [kb_eq0, kb_ne0, lg_cmp_lt, lg_cmp_le, lg_cmp_gt, lg_cmp_ge, lg_cmp_eq] at t_5_1
      try simp only [Int32.lt_iff_toInt_lt, Int32.le_iff_toInt_le, ← Int32.toInt_inj, Int64.lt_iff_toInt_lt, Int64.le_iff_toInt_le, ← Int64.toInt_inj, Int32.toInt_toInt64, Int32.reduceToInt, Int64.reduceToInt] at t_5_1
      omega
    · have t_5_1 := c_5_1
      try simp only [kb_eq0, kb_ne0, lg_cmp_lt, lg_cmp_le, lg_cmp_gt, lg_cmp_ge, lg_cmp_eq] at t_5_1
      try simp only [Int32.lt_iff_toInt_lt, Int32.le_iff_toInt_le, ← Int32.toInt_inj, Int64.lt_iff_toInt_lt, Int64.le_iff_toInt_le, ← Int64.toInt_inj, Int32.toInt_toInt64, Int32.reduceToInt, Int64.reduceToInt] at t_5_1
      refine lv_ldc2 (v := (-1)) hx hb hown (hts (.constantLong RX8 59 (-1)) (List.mem_of_getElem? (i := 1) rfl)) dX8_item_8 ?_
      refine lv_goto (tgt := 50) hx hb dX8_item_11 (by decide) ?_
      refine kLret (u := ()) hx hb hr hlocks hS dX8_item_50 ?_ (hP.sub [2, 0, 1] rfl) (hD.sub [2, 0, 1] (by decide) rfl)
      exact trivial
  · have hu0 : 0 ≤ s0.toInt ∧ s0.toInt ≤ j0.toInt ∧ j0.toInt ≤ 300 := ht0
    have hs0 := k_sub (a := j0) (b := 1) (by omega) (by decide)
    simp only [Int32.reduceToInt] at hs0
    refine lv_aload_n hx hb dX8_item_0 rfl (lv_at hl 0 rfl) ?_
    refine lv_iload_n hx hb dX8_item_1 rfl (lv_at hl 1 rfl) ?_
    refine kCallI (wr := [(mI, .inl (cL, 1200, .inr (.inl fI))), (mJ, .inl (cI, 4, .inl (k4i j0 j1 j2 j3)))]) (va_runV (As := [.int 0]) (rest := []) ⟨hx, hb, hml, hown, hts⟩ (q_isTape l D cI cL cB cZ cT _ m0 mH mI mJ mS mD mX mA mB mW mL aM aC mM mQ oV pL lI sW dP sT aT cH iW iH aE mN sZ tS tA tW lS 0) (cwV 1 hts gX8_item_X8_isTape rfl rfl rfl (by decide +kernel) ⟨Nat.le_of_ble_eq_true rfl, Nat.le_of_ble_eq_true rfl⟩) (kPreV hG hP hD [0] rfl (by decide) 0 8 rfl rfl rfl) rfl rfl hl.1 rfl (lv_room (Nat.le_of_ble_eq_true rfl)) dX8_item_2 ⟨Nat.le_of_ble_eq_true rfl, Nat.le_of_ble_eq_true rfl⟩) hA hP hD hS [0] [1, 2] rfl rfl (by decide) (by decide) (fun r_3 u_r_3 H locs wr_3 hP hD hS => ?_)
    have hP : va_P D vwCl [(mI, .inl (cL, 1200, .inr (.inl fI))), (mJ, .inl (cI, 4, .inl (k4i j0 j1 j2 j3))), (m0, .inr (8, [.ref mH, .int aM, .long aC, .int mM, .long mQ, .int oV, .int pL, .int lI, .int sW, .int dP, .int sT, .long aT, .int cH, .int iW, .ref mI, .ref mJ, .ref mS, .ref mD, .int iH, .int aE, .int mN, .long sZ, .ref mX, .int tS, .int tA, .int tW, .ref mA, .ref mB, .ref mW, .ref mL, .int lS]))] H := hP
    have hD : va_D A [(mI, .inl (cL, 1200, .inr (.inl fI))), (mJ, .inl (cI, 4, .inl (k4i j0 j1 j2 j3))), (m0, .inr (8, [.ref mH, .int aM, .long aC, .int mM, .long mQ, .int oV, .int pL, .int lI, .int sW, .int dP, .int sT, .long aT, .int cH, .int iW, .ref mI, .ref mJ, .ref mS, .ref mD, .int iH, .int aE, .int mN, .long sZ, .ref mX, .int tS, .int tA, .int tW, .ref mA, .ref mB, .ref mW, .ref mL, .int lS]))] := hD
    try dsimp only at wr_3
    subst wr_3
    refine lv_if_ne (tgt := 14) hx hb dX8_item_5 (by decide) (fun c_5_3 => ?_) (fun c_5_3 => ?_)
    · have t_5_3 := c_5_3
      try simp only [kb_eq0, kb_ne0, lg_cmp_lt, lg_cmp_le, lg_cmp_gt, lg_cmp_ge, lg_cmp_eq] at t_5_3
      try simp only [Int32.lt_iff_toInt_lt, Int32.le_iff_toInt_le, ← Int32.toInt_inj, Int64.lt_iff_toInt_lt, Int64.le_iff_toInt_le, ← Int64.toInt_inj, Int32.toInt_toInt64, Int32.reduceToInt, Int64.reduceToInt] at t_5_3
      refine lv_iload_n hx hb dX8_item_14 rfl (lv_at hl 2 rfl) ?_
      refine lv_i2l hx hb dX8_item_15 rfl ?_
      refine lv_lconst (v := 0) hx hb dX8_item_16 (by decide) ?_
      refine lv_aload_n hx hb dX8_item_17 rfl (lv_at hl 0 rfl) ?_
      refine va_get (D := D) (ci := 8) (v := .ref mJ) (C := RX8) (T := TX8) (N := 31) hx hb hts iX8_item_X8 hown hK hP 2 rfl rfl 15 (by decide) (hts (.fieldLink RX8 17 "TapeCalculatorModel" "items" "[I") (List.mem_of_getElem? (i := 2) rfl)) (fun _ h9 => h9) rfl dX8_item_18 ?_
      refine lv_iload_n hx hb dX8_item_21 rfl (lv_at hl 1 rfl) ?_
      refine va_iald hx hb hK hP 1 0 rfl rfl (vp_in_iff.mpr (by decide)) dX8_item_22 ?_
      refine lv_topi (fun x_5 ex_5 => ?_)
      obtain rfl : j0 = x_5 := ex_5.symm
      refine lv_iconst (v := 1) hx hb dX8_item_23 (by decide) ?_
      refine lv_isub hx hb dX8_item_24 ?_
      refine lv_i2l hx hb dX8_item_25 rfl ?_
      refine kCallI (wr := [(mI, .inl (cL, 1200, .inr (.inl fI))), (mJ, .inl (cI, 4, .inl (k4i j0 j1 j2 j3))), (m0, .inr (8, [.ref mH, .int aM, .long aC, .int mM, .long mQ, .int oV, .int pL, .int lI, .int sW, .int dP, .int sT, .long aT, .int cH, .int iW, .ref mI, .ref mJ, .ref mS, .ref mD, .int iH, .int aE, .int mN, .long sZ, .ref mX, .int tS, .int tA, .int tW, .ref mA, .ref mB, .ref mW, .ref mL, .int lS]))]) (va_runS (As := [.long i.toInt64, .long 0, .long (j0 - 1).toInt64]) (rest := []) ⟨hx, hb, hml, hown, hts⟩ (q_in l D cI cL cB cZ cT _ (i.toInt64) 0 (j0 - 1).toInt64) (va_cwS 3 hts gX8_item_X8_in rfl rfl rfl (by decide +kernel) ⟨Nat.le_of_ble_eq_true rfl, Nat.le_of_ble_eq_true rfl⟩) (kPreS hG hP hD [] rfl (by decide)) rfl rfl hl.1 rfl (lv_room (Nat.le_of_ble_eq_true rfl)) dX8_item_26 ⟨Nat.le_of_ble_eq_true rfl, Nat.le_of_ble_eq_true rfl⟩) hA hP hD hS [] [0, 1, 2] rfl rfl (by decide) (by decide) (fun r_6 u_r_6 H locs wr_6 hP hD hS => ?_)
      have hP : va_P D vwCl [(mI, .inl (cL, 1200, .inr (.inl fI))), (mJ, .inl (cI, 4, .inl (k4i j0 j1 j2 j3))), (m0, .inr (8, [.ref mH, .int aM, .long aC, .int mM, .long mQ, .int oV, .int pL, .int lI, .int sW, .int dP, .int sT, .long aT, .int cH, .int iW, .ref mI, .ref mJ, .ref mS, .ref mD, .int iH, .int aE, .int mN, .long sZ, .ref mX, .int tS, .int tA, .int tW, .ref mA, .ref mB, .ref mW, .ref mL, .int lS]))] H := hP
      have hD : va_D A [(mI, .inl (cL, 1200, .inr (.inl fI))), (mJ, .inl (cI, 4, .inl (k4i j0 j1 j2 j3))), (m0, .inr (8, [.ref mH, .int aM, .long aC, .int mM, .long mQ, .int oV, .int pL, .int lI, .int sW, .int dP, .int sT, .long aT, .int cH, .int iW, .ref mI, .ref mJ, .ref mS, .ref mD, .int iH, .int aE, .int mN, .long sZ, .ref mX, .int tS, .int tA, .int tW, .ref mA, .ref mB, .ref mW, .ref mL, .int lS]))] := hD
      try dsimp only at wr_6
      subst wr_6
      refine lv_if_eq (tgt := 47) hx hb dX8_item_29 (by decide) (fun c_29_6 => ?_) (fun c_29_6 => ?_)
      · have t_29_6 := c_29_6
        try simp only [kb_eq0, kb_ne0, lg_cmp_lt, lg_cmp_le, lg_cmp_gt, lg_cmp_ge, lg_cmp_eq] at t_29_6
        try simp only [Int32.lt_iff_toInt_lt, Int32.le_iff_toInt_le, ← Int32.toInt_inj, Int64.lt_iff_toInt_lt, Int64.le_iff_toInt_le, ← Int64.toInt_inj, Int32.toInt_toInt64, Int32.reduceToInt, Int64.reduceToInt] at t_29_6
        refine lv_ldc2 (v := (-9)) hx hb hown (hts (.constantLong RX8 107 (-9)) (List.mem_of_getElem? (i := 4) rfl)) dX8_item_47 ?_
        refine kLret (u := ()) hx hb hr hlocks hS dX8_item_50 ?_ (hP.sub [2, 0, 1] rfl) (hD.sub [2, 0, 1] (by decide) rfl)
        exact trivial
      · have t_29_6 := c_29_6
        try simp only [kb_eq0, kb_ne0, lg_cmp_lt, lg_cmp_le, lg_cmp_gt, lg_cmp_ge, lg_cmp_eq] at t_29_6
        try simp only [Int32.lt_iff_toInt_lt, Int32.le_iff_toInt_le, ← Int32.toInt_inj, Int64.lt_iff_toInt_lt, Int64.le_iff_toInt_le, ← Int64.toInt_inj, Int32.toInt_toInt64, Int32.reduceToInt, Int64.reduceToInt] at t_29_6
        refine lv_aload_n hx hb dX8_item_32 rfl (lv_at hl 0 rfl) ?_
        refine va_get (D := D) (ci := 8) (v := .ref mI) (C := RX8) (T := TX8) (N := 31) hx hb hts iX8_item_X8 hown hK hP 2 rfl rfl 14 (by decide) (hts (.fieldLink RX8 13 "TapeCalculatorModel" "item" "[J") (List.mem_of_getElem? (i := 3) rfl)) (fun _ h9 => h9) rfl dX8_item_33 ?_
        refine lv_sipush (v := 300) hx hb dX8_item_36 (by decide) ?_
        refine lv_iload_n hx hb dX8_item_39 rfl (lv_at hl 1 rfl) ?_
        refine lv_imul hx hb dX8_item_40 ?_
        refine lv_topi (fun x_8 ex_8 => ?_)
        obtain rfl : x_8 = 0 := ex_8.trans (by decide)
        refine lv_iload_n hx hb dX8_item_41 rfl (lv_at hl 2 rfl) ?_
        refine lv_iadd hx hb dX8_item_42 ?_
        refine va_lald hx hb hK hP 0 1 rfl rfl (vp_in_iff.mpr (by have hx9 := k_addg (a := 0) (b := i) (by decide) (by omega); simp only [Int32.reduceToInt] at hx9; omega)) dX8_item_43 ?_
        refine lv_goto (tgt := 50) hx hb dX8_item_44 (by decide) ?_
        refine kLret (u := ()) hx hb hr hlocks hS dX8_item_50 ?_ (hP.sub [2, 0, 1] rfl) (hD.sub [2, 0, 1] (by decide) rfl)
        exact trivial
    · have t_5_3 := c_5_3
      try simp only [kb_eq0, kb_ne0, lg_cmp_lt, lg_cmp_le, lg_cmp_gt, lg_cmp_ge, lg_cmp_eq] at t_5_3
      try simp only [Int32.lt_iff_toInt_lt, Int32.le_iff_toInt_le, ← Int32.toInt_inj, Int64.lt_iff_toInt_lt, Int64.le_iff_toInt_le, ← Int64.toInt_inj, Int32.toInt_toInt64, Int32.reduceToInt, Int64.reduceToInt] at t_5_3
      omega
  · have hu1 : 0 ≤ s1.toInt ∧ s1.toInt ≤ j1.toInt ∧ j1.toInt ≤ 300 := ht1
    have hs0 := k_sub (a := j1) (b := 1) (by omega) (by decide)
    simp only [Int32.reduceToInt] at hs0
    refine lv_aload_n hx hb dX8_item_0 rfl (lv_at hl 0 rfl) ?_
    refine lv_iload_n hx hb dX8_item_1 rfl (lv_at hl 1 rfl) ?_
    refine kCallI (wr := [(mI, .inl (cL, 1200, .inr (.inl fI))), (mJ, .inl (cI, 4, .inl (k4i j0 j1 j2 j3)))]) (va_runV (As := [.int 1]) (rest := []) ⟨hx, hb, hml, hown, hts⟩ (q_isTape l D cI cL cB cZ cT _ m0 mH mI mJ mS mD mX mA mB mW mL aM aC mM mQ oV pL lI sW dP sT aT cH iW iH aE mN sZ tS tA tW lS 1) (cwV 1 hts gX8_item_X8_isTape rfl rfl rfl (by decide +kernel) ⟨Nat.le_of_ble_eq_true rfl, Nat.le_of_ble_eq_true rfl⟩) (kPreV hG hP hD [0] rfl (by decide) 0 8 rfl rfl rfl) rfl rfl hl.1 rfl (lv_room (Nat.le_of_ble_eq_true rfl)) dX8_item_2 ⟨Nat.le_of_ble_eq_true rfl, Nat.le_of_ble_eq_true rfl⟩) hA hP hD hS [0] [1, 2] rfl rfl (by decide) (by decide) (fun r_9 u_r_9 H locs wr_9 hP hD hS => ?_)
    have hP : va_P D vwCl [(mI, .inl (cL, 1200, .inr (.inl fI))), (mJ, .inl (cI, 4, .inl (k4i j0 j1 j2 j3))), (m0, .inr (8, [.ref mH, .int aM, .long aC, .int mM, .long mQ, .int oV, .int pL, .int lI, .int sW, .int dP, .int sT, .long aT, .int cH, .int iW, .ref mI, .ref mJ, .ref mS, .ref mD, .int iH, .int aE, .int mN, .long sZ, .ref mX, .int tS, .int tA, .int tW, .ref mA, .ref mB, .ref mW, .ref mL, .int lS]))] H := hP
    have hD : va_D A [(mI, .inl (cL, 1200, .inr (.inl fI))), (mJ, .inl (cI, 4, .inl (k4i j0 j1 j2 j3))), (m0, .inr (8, [.ref mH, .int aM, .long aC, .int mM, .long mQ, .int oV, .int pL, .int lI, .int sW, .int dP, .int sT, .long aT, .int cH, .int iW, .ref mI, .ref mJ, .ref mS, .ref mD, .int iH, .int aE, .int mN, .long sZ, .ref mX, .int tS, .int tA, .int tW, .ref mA, .ref mB, .ref mW, .ref mL, .int lS]))] := hD
    try dsimp only at wr_9
    subst wr_9
    refine lv_if_ne (tgt := 14) hx hb dX8_item_5 (by decide) (fun c_5_9 => ?_) (fun c_5_9 => ?_)
    · have t_5_9 := c_5_9
      try simp only [kb_eq0, kb_ne0, lg_cmp_lt, lg_cmp_le, lg_cmp_gt, lg_cmp_ge, lg_cmp_eq] at t_5_9
      try simp only [Int32.lt_iff_toInt_lt, Int32.le_iff_toInt_le, ← Int32.toInt_inj, Int64.lt_iff_toInt_lt, Int64.le_iff_toInt_le, ← Int64.toInt_inj, Int32.toInt_toInt64, Int32.reduceToInt, Int64.reduceToInt] at t_5_9
      refine lv_iload_n hx hb dX8_item_14 rfl (lv_at hl 2 rfl) ?_
      refine lv_i2l hx hb dX8_item_15 rfl ?_
      refine lv_lconst (v := 0) hx hb dX8_item_16 (by decide) ?_
      refine lv_aload_n hx hb dX8_item_17 rfl (lv_at hl 0 rfl) ?_
      refine va_get (D := D) (ci := 8) (v := .ref mJ) (C := RX8) (T := TX8) (N := 31) hx hb hts iX8_item_X8 hown hK hP 2 rfl rfl 15 (by decide) (hts (.fieldLink RX8 17 "TapeCalculatorModel" "items" "[I") (List.mem_of_getElem? (i := 2) rfl)) (fun _ h9 => h9) rfl dX8_item_18 ?_
      refine lv_iload_n hx hb dX8_item_21 rfl (lv_at hl 1 rfl) ?_
      refine va_iald hx hb hK hP 1 0 rfl rfl (vp_in_iff.mpr (by decide)) dX8_item_22 ?_
      refine lv_topi (fun x_11 ex_11 => ?_)
      obtain rfl : j1 = x_11 := ex_11.symm
      refine lv_iconst (v := 1) hx hb dX8_item_23 (by decide) ?_
      refine lv_isub hx hb dX8_item_24 ?_
      refine lv_i2l hx hb dX8_item_25 rfl ?_
      refine kCallI (wr := [(mI, .inl (cL, 1200, .inr (.inl fI))), (mJ, .inl (cI, 4, .inl (k4i j0 j1 j2 j3))), (m0, .inr (8, [.ref mH, .int aM, .long aC, .int mM, .long mQ, .int oV, .int pL, .int lI, .int sW, .int dP, .int sT, .long aT, .int cH, .int iW, .ref mI, .ref mJ, .ref mS, .ref mD, .int iH, .int aE, .int mN, .long sZ, .ref mX, .int tS, .int tA, .int tW, .ref mA, .ref mB, .ref mW, .ref mL, .int lS]))]) (va_runS (As := [.long i.toInt64, .long 0, .long (j1 - 1).toInt64]) (rest := []) ⟨hx, hb, hml, hown, hts⟩ (q_in l D cI cL cB cZ cT _ (i.toInt64) 0 (j1 - 1).toInt64) (va_cwS 3 hts gX8_item_X8_in rfl rfl rfl (by decide +kernel) ⟨Nat.le_of_ble_eq_true rfl, Nat.le_of_ble_eq_true rfl⟩) (kPreS hG hP hD [] rfl (by decide)) rfl rfl hl.1 rfl (lv_room (Nat.le_of_ble_eq_true rfl)) dX8_item_26 ⟨Nat.le_of_ble_eq_true rfl, Nat.le_of_ble_eq_true rfl⟩) hA hP hD hS [] [0, 1, 2] rfl rfl (by decide) (by decide) (fun r_12 u_r_12 H locs wr_12 hP hD hS => ?_)
      have hP : va_P D vwCl [(mI, .inl (cL, 1200, .inr (.inl fI))), (mJ, .inl (cI, 4, .inl (k4i j0 j1 j2 j3))), (m0, .inr (8, [.ref mH, .int aM, .long aC, .int mM, .long mQ, .int oV, .int pL, .int lI, .int sW, .int dP, .int sT, .long aT, .int cH, .int iW, .ref mI, .ref mJ, .ref mS, .ref mD, .int iH, .int aE, .int mN, .long sZ, .ref mX, .int tS, .int tA, .int tW, .ref mA, .ref mB, .ref mW, .ref mL, .int lS]))] H := hP
      have hD : va_D A [(mI, .inl (cL, 1200, .inr (.inl fI))), (mJ, .inl (cI, 4, .inl (k4i j0 j1 j2 j3))), (m0, .inr (8, [.ref mH, .int aM, .long aC, .int mM, .long mQ, .int oV, .int pL, .int lI, .int sW, .int dP, .int sT, .long aT, .int cH, .int iW, .ref mI, .ref mJ, .ref mS, .ref mD, .int iH, .int aE, .int mN, .long sZ, .ref mX, .int tS, .int tA, .int tW, .ref mA, .ref mB, .ref mW, .ref mL, .int lS]))] := hD
      try dsimp only at wr_12
      subst wr_12
      refine lv_if_eq (tgt := 47) hx hb dX8_item_29 (by decide) (fun c_29_12 => ?_) (fun c_29_12 => ?_)
      · have t_29_12 := c_29_12
        try simp only [kb_eq0, kb_ne0, lg_cmp_lt, lg_cmp_le, lg_cmp_gt, lg_cmp_ge, lg_cmp_eq] at t_29_12
        try simp only [Int32.lt_iff_toInt_lt, Int32.le_iff_toInt_le, ← Int32.toInt_inj, Int64.lt_iff_toInt_lt, Int64.le_iff_toInt_le, ← Int64.toInt_inj, Int32.toInt_toInt64, Int32.reduceToInt, Int64.reduceToInt] at t_29_12
        refine lv_ldc2 (v := (-9)) hx hb hown (hts (.constantLong RX8 107 (-9)) (List.mem_of_getElem? (i := 4) rfl)) dX8_item_47 ?_
        refine kLret (u := ()) hx hb hr hlocks hS dX8_item_50 ?_ (hP.sub [2, 0, 1] rfl) (hD.sub [2, 0, 1] (by decide) rfl)
        exact trivial
      · have t_29_12 := c_29_12
        try simp only [kb_eq0, kb_ne0, lg_cmp_lt, lg_cmp_le, lg_cmp_gt, lg_cmp_ge, lg_cmp_eq] at t_29_12
        try simp only [Int32.lt_iff_toInt_lt, Int32.le_iff_toInt_le, ← Int32.toInt_inj, Int64.lt_iff_toInt_lt, Int64.le_iff_toInt_le, ← Int64.toInt_inj, Int32.toInt_toInt64, Int32.reduceToInt, Int64.reduceToInt] at t_29_12
        refine lv_aload_n hx hb dX8_item_32 rfl (lv_at hl 0 rfl) ?_
        refine va_get (D := D) (ci := 8) (v := .ref mI) (C := RX8) (T := TX8) (N := 31) hx hb hts iX8_item_X8 hown hK hP 2 rfl rfl 14 (by decide) (hts (.fieldLink RX8 13 "TapeCalculatorModel" "item" "[J") (List.mem_of_getElem? (i := 3) rfl)) (fun _ h9 => h9) rfl dX8_item_33 ?_
        refine lv_sipush (v := 300) hx hb dX8_item_36 (by decide) ?_
        refine lv_iload_n hx hb dX8_item_39 rfl (lv_at hl 1 rfl) ?_
        refine lv_imul hx hb dX8_item_40 ?_
        refine lv_topi (fun x_14 ex_14 => ?_)
        obtain rfl : x_14 = 300 := ex_14.trans (by decide)
        refine lv_iload_n hx hb dX8_item_41 rfl (lv_at hl 2 rfl) ?_
        refine lv_iadd hx hb dX8_item_42 ?_
        refine va_lald hx hb hK hP 0 1 rfl rfl (vp_in_iff.mpr (by have hx9 := k_addg (a := 300) (b := i) (by decide) (by omega); simp only [Int32.reduceToInt] at hx9; omega)) dX8_item_43 ?_
        refine lv_goto (tgt := 50) hx hb dX8_item_44 (by decide) ?_
        refine kLret (u := ()) hx hb hr hlocks hS dX8_item_50 ?_ (hP.sub [2, 0, 1] rfl) (hD.sub [2, 0, 1] (by decide) rfl)
        exact trivial
    · have t_5_9 := c_5_9
      try simp only [kb_eq0, kb_ne0, lg_cmp_lt, lg_cmp_le, lg_cmp_gt, lg_cmp_ge, lg_cmp_eq] at t_5_9
      try simp only [Int32.lt_iff_toInt_lt, Int32.le_iff_toInt_le, ← Int32.toInt_inj, Int64.lt_iff_toInt_lt, Int64.le_iff_toInt_le, ← Int64.toInt_inj, Int32.toInt_toInt64, Int32.reduceToInt, Int64.reduceToInt] at t_5_9
      omega
  · have hu2 : 0 ≤ s2.toInt ∧ s2.toInt ≤ j2.toInt ∧ j2.toInt ≤ 300 := ht2
    have hs0 := k_sub (a := j2) (b := 1) (by omega) (by decide)
    simp only [Int32.reduceToInt] at hs0
    refine lv_aload_n hx hb dX8_item_0 rfl (lv_at hl 0 rfl) ?_
    refine lv_iload_n hx hb dX8_item_1 rfl (lv_at hl 1 rfl) ?_
    refine kCallI (wr := [(mI, .inl (cL, 1200, .inr (.inl fI))), (mJ, .inl (cI, 4, .inl (k4i j0 j1 j2 j3)))]) (va_runV (As := [.int 2]) (rest := []) ⟨hx, hb, hml, hown, hts⟩ (q_isTape l D cI cL cB cZ cT _ m0 mH mI mJ mS mD mX mA mB mW mL aM aC mM mQ oV pL lI sW dP sT aT cH iW iH aE mN sZ tS tA tW lS 2) (cwV 1 hts gX8_item_X8_isTape rfl rfl rfl (by decide +kernel) ⟨Nat.le_of_ble_eq_true rfl, Nat.le_of_ble_eq_true rfl⟩) (kPreV hG hP hD [0] rfl (by decide) 0 8 rfl rfl rfl) rfl rfl hl.1 rfl (lv_room (Nat.le_of_ble_eq_true rfl)) dX8_item_2 ⟨Nat.le_of_ble_eq_true rfl, Nat.le_of_ble_eq_true rfl⟩) hA hP hD hS [0] [1, 2] rfl rfl (by decide) (by decide) (fun r_15 u_r_15 H locs wr_15 hP hD hS => ?_)
    have hP : va_P D vwCl [(mI, .inl (cL, 1200, .inr (.inl fI))), (mJ, .inl (cI, 4, .inl (k4i j0 j1 j2 j3))), (m0, .inr (8, [.ref mH, .int aM, .long aC, .int mM, .long mQ, .int oV, .int pL, .int lI, .int sW, .int dP, .int sT, .long aT, .int cH, .int iW, .ref mI, .ref mJ, .ref mS, .ref mD, .int iH, .int aE, .int mN, .long sZ, .ref mX, .int tS, .int tA, .int tW, .ref mA, .ref mB, .ref mW, .ref mL, .int lS]))] H := hP
    have hD : va_D A [(mI, .inl (cL, 1200, .inr (.inl fI))), (mJ, .inl (cI, 4, .inl (k4i j0 j1 j2 j3))), (m0, .inr (8, [.ref mH, .int aM, .long aC, .int mM, .long mQ, .int oV, .int pL, .int lI, .int sW, .int dP, .int sT, .long aT, .int cH, .int iW, .ref mI, .ref mJ, .ref mS, .ref mD, .int iH, .int aE, .int mN, .long sZ, .ref mX, .int tS, .int tA, .int tW, .ref mA, .ref mB, .ref mW, .ref mL, .int lS]))] := hD
    try dsimp only at wr_15
    subst wr_15
    refine lv_if_ne (tgt := 14) hx hb dX8_item_5 (by decide) (fun c_5_15 => ?_) (fun c_5_15 => ?_)
    · have t_5_15 := c_5_15
      try simp only [kb_eq0, kb_ne0, lg_cmp_lt, lg_cmp_le, lg_cmp_gt, lg_cmp_ge, lg_cmp_eq] at t_5_15
      try simp only [Int32.lt_iff_toInt_lt, Int32.le_iff_toInt_le, ← Int32.toInt_inj, Int64.lt_iff_toInt_lt, Int64.le_iff_toInt_le, ← Int64.toInt_inj, Int32.toInt_toInt64, Int32.reduceToInt, Int64.reduceToInt] at t_5_15
      refine lv_iload_n hx hb dX8_item_14 rfl (lv_at hl 2 rfl) ?_
      refine lv_i2l hx hb dX8_item_15 rfl ?_
      refine lv_lconst (v := 0) hx hb dX8_item_16 (by decide) ?_
      refine lv_aload_n hx hb dX8_item_17 rfl (lv_at hl 0 rfl) ?_
      refine va_get (D := D) (ci := 8) (v := .ref mJ) (C := RX8) (T := TX8) (N := 31) hx hb hts iX8_item_X8 hown hK hP 2 rfl rfl 15 (by decide) (hts (.fieldLink RX8 17 "TapeCalculatorModel" "items" "[I") (List.mem_of_getElem? (i := 2) rfl)) (fun _ h9 => h9) rfl dX8_item_18 ?_
      refine lv_iload_n hx hb dX8_item_21 rfl (lv_at hl 1 rfl) ?_
      refine va_iald hx hb hK hP 1 0 rfl rfl (vp_in_iff.mpr (by decide)) dX8_item_22 ?_
      refine lv_topi (fun x_17 ex_17 => ?_)
      obtain rfl : j2 = x_17 := ex_17.symm
      refine lv_iconst (v := 1) hx hb dX8_item_23 (by decide) ?_
      refine lv_isub hx hb dX8_item_24 ?_
      refine lv_i2l hx hb dX8_item_25 rfl ?_
      refine kCallI (wr := [(mI, .inl (cL, 1200, .inr (.inl fI))), (mJ, .inl (cI, 4, .inl (k4i j0 j1 j2 j3))), (m0, .inr (8, [.ref mH, .int aM, .long aC, .int mM, .long mQ, .int oV, .int pL, .int lI, .int sW, .int dP, .int sT, .long aT, .int cH, .int iW, .ref mI, .ref mJ, .ref mS, .ref mD, .int iH, .int aE, .int mN, .long sZ, .ref mX, .int tS, .int tA, .int tW, .ref mA, .ref mB, .ref mW, .ref mL, .int lS]))]) (va_runS (As := [.long i.toInt64, .long 0, .long (j2 - 1).toInt64]) (rest := []) ⟨hx, hb, hml, hown, hts⟩ (q_in l D cI cL cB cZ cT _ (i.toInt64) 0 (j2 - 1).toInt64) (va_cwS 3 hts gX8_item_X8_in rfl rfl rfl (by decide +kernel) ⟨Nat.le_of_ble_eq_true rfl, Nat.le_of_ble_eq_true rfl⟩) (kPreS hG hP hD [] rfl (by decide)) rfl rfl hl.1 rfl (lv_room (Nat.le_of_ble_eq_true rfl)) dX8_item_26 ⟨Nat.le_of_ble_eq_true rfl, Nat.le_of_ble_eq_true rfl⟩) hA hP hD hS [] [0, 1, 2] rfl rfl (by decide) (by decide) (fun r_18 u_r_18 H locs wr_18 hP hD hS => ?_)
      have hP : va_P D vwCl [(mI, .inl (cL, 1200, .inr (.inl fI))), (mJ, .inl (cI, 4, .inl (k4i j0 j1 j2 j3))), (m0, .inr (8, [.ref mH, .int aM, .long aC, .int mM, .long mQ, .int oV, .int pL, .int lI, .int sW, .int dP, .int sT, .long aT, .int cH, .int iW, .ref mI, .ref mJ, .ref mS, .ref mD, .int iH, .int aE, .int mN, .long sZ, .ref mX, .int tS, .int tA, .int tW, .ref mA, .ref mB, .ref mW, .ref mL, .int lS]))] H := hP
      have hD : va_D A [(mI, .inl (cL, 1200, .inr (.inl fI))), (mJ, .inl (cI, 4, .inl (k4i j0 j1 j2 j3))), (m0, .inr (8, [.ref mH, .int aM, .long aC, .int mM, .long mQ, .int oV, .int pL, .int lI, .int sW, .int dP, .int sT, .long aT, .int cH, .int iW, .ref mI, .ref mJ, .ref mS, .ref mD, .int iH, .int aE, .int mN, .long sZ, .ref mX, .int tS, .int tA, .int tW, .ref mA, .ref mB, .ref mW, .ref mL, .int lS]))] := hD
      try dsimp only at wr_18
      subst wr_18
      refine lv_if_eq (tgt := 47) hx hb dX8_item_29 (by decide) (fun c_29_18 => ?_) (fun c_29_18 => ?_)
      · have t_29_18 := c_29_18
        try simp only [kb_eq0, kb_ne0, lg_cmp_lt, lg_cmp_le, lg_cmp_gt, lg_cmp_ge, lg_cmp_eq] at t_29_18
        try simp only [Int32.lt_iff_toInt_lt, Int32.le_iff_toInt_le, ← Int32.toInt_inj, Int64.lt_iff_toInt_lt, Int64.le_iff_toInt_le, ← Int64.toInt_inj, Int32.toInt_toInt64, Int32.reduceToInt, Int64.reduceToInt] at t_29_18
        refine lv_ldc2 (v := (-9)) hx hb hown (hts (.constantLong RX8 107 (-9)) (List.mem_of_getElem? (i := 4) rfl)) dX8_item_47 ?_
        refine kLret (u := ()) hx hb hr hlocks hS dX8_item_50 ?_ (hP.sub [2, 0, 1] rfl) (hD.sub [2, 0, 1] (by decide) rfl)
        exact trivial
      · have t_29_18 := c_29_18
        try simp only [kb_eq0, kb_ne0, lg_cmp_lt, lg_cmp_le, lg_cmp_gt, lg_cmp_ge, lg_cmp_eq] at t_29_18
        try simp only [Int32.lt_iff_toInt_lt, Int32.le_iff_toInt_le, ← Int32.toInt_inj, Int64.lt_iff_toInt_lt, Int64.le_iff_toInt_le, ← Int64.toInt_inj, Int32.toInt_toInt64, Int32.reduceToInt, Int64.reduceToInt] at t_29_18
        refine lv_aload_n hx hb dX8_item_32 rfl (lv_at hl 0 rfl) ?_
        refine va_get (D := D) (ci := 8) (v := .ref mI) (C := RX8) (T := TX8) (N := 31) hx hb hts iX8_item_X8 hown hK hP 2 rfl rfl 14 (by decide) (hts (.fieldLink RX8 13 "TapeCalculatorModel" "item" "[J") (List.mem_of_getElem? (i := 3) rfl)) (fun _ h9 => h9) rfl dX8_item_33 ?_
        refine lv_sipush (v := 300) hx hb dX8_item_36 (by decide) ?_
        refine lv_iload_n hx hb dX8_item_39 rfl (lv_at hl 1 rfl) ?_
        refine lv_imul hx hb dX8_item_40 ?_
        refine lv_topi (fun x_20 ex_20 => ?_)
        obtain rfl : x_20 = 600 := ex_20.trans (by decide)
        refine lv_iload_n hx hb dX8_item_41 rfl (lv_at hl 2 rfl) ?_
        refine lv_iadd hx hb dX8_item_42 ?_
        refine va_lald hx hb hK hP 0 1 rfl rfl (vp_in_iff.mpr (by have hx9 := k_addg (a := 600) (b := i) (by decide) (by omega); simp only [Int32.reduceToInt] at hx9; omega)) dX8_item_43 ?_
        refine lv_goto (tgt := 50) hx hb dX8_item_44 (by decide) ?_
        refine kLret (u := ()) hx hb hr hlocks hS dX8_item_50 ?_ (hP.sub [2, 0, 1] rfl) (hD.sub [2, 0, 1] (by decide) rfl)
        exact trivial
    · have t_5_15 := c_5_15
      try simp only [kb_eq0, kb_ne0, lg_cmp_lt, lg_cmp_le, lg_cmp_gt, lg_cmp_ge, lg_cmp_eq] at t_5_15
      try simp only [Int32.lt_iff_toInt_lt, Int32.le_iff_toInt_le, ← Int32.toInt_inj, Int64.lt_iff_toInt_lt, Int64.le_iff_toInt_le, ← Int64.toInt_inj, Int32.toInt_toInt64, Int32.reduceToInt, Int64.reduceToInt] at t_5_15
      omega
  · have hu3 : 0 ≤ s3.toInt ∧ s3.toInt ≤ j3.toInt ∧ j3.toInt ≤ 300 := ht3
    have hs0 := k_sub (a := j3) (b := 1) (by omega) (by decide)
    simp only [Int32.reduceToInt] at hs0
    refine lv_aload_n hx hb dX8_item_0 rfl (lv_at hl 0 rfl) ?_
    refine lv_iload_n hx hb dX8_item_1 rfl (lv_at hl 1 rfl) ?_
    refine kCallI (wr := [(mI, .inl (cL, 1200, .inr (.inl fI))), (mJ, .inl (cI, 4, .inl (k4i j0 j1 j2 j3)))]) (va_runV (As := [.int 3]) (rest := []) ⟨hx, hb, hml, hown, hts⟩ (q_isTape l D cI cL cB cZ cT _ m0 mH mI mJ mS mD mX mA mB mW mL aM aC mM mQ oV pL lI sW dP sT aT cH iW iH aE mN sZ tS tA tW lS 3) (cwV 1 hts gX8_item_X8_isTape rfl rfl rfl (by decide +kernel) ⟨Nat.le_of_ble_eq_true rfl, Nat.le_of_ble_eq_true rfl⟩) (kPreV hG hP hD [0] rfl (by decide) 0 8 rfl rfl rfl) rfl rfl hl.1 rfl (lv_room (Nat.le_of_ble_eq_true rfl)) dX8_item_2 ⟨Nat.le_of_ble_eq_true rfl, Nat.le_of_ble_eq_true rfl⟩) hA hP hD hS [0] [1, 2] rfl rfl (by decide) (by decide) (fun r_21 u_r_21 H locs wr_21 hP hD hS => ?_)
    have hP : va_P D vwCl [(mI, .inl (cL, 1200, .inr (.inl fI))), (mJ, .inl (cI, 4, .inl (k4i j0 j1 j2 j3))), (m0, .inr (8, [.ref mH, .int aM, .long aC, .int mM, .long mQ, .int oV, .int pL, .int lI, .int sW, .int dP, .int sT, .long aT, .int cH, .int iW, .ref mI, .ref mJ, .ref mS, .ref mD, .int iH, .int aE, .int mN, .long sZ, .ref mX, .int tS, .int tA, .int tW, .ref mA, .ref mB, .ref mW, .ref mL, .int lS]))] H := hP
    have hD : va_D A [(mI, .inl (cL, 1200, .inr (.inl fI))), (mJ, .inl (cI, 4, .inl (k4i j0 j1 j2 j3))), (m0, .inr (8, [.ref mH, .int aM, .long aC, .int mM, .long mQ, .int oV, .int pL, .int lI, .int sW, .int dP, .int sT, .long aT, .int cH, .int iW, .ref mI, .ref mJ, .ref mS, .ref mD, .int iH, .int aE, .int mN, .long sZ, .ref mX, .int tS, .int tA, .int tW, .ref mA, .ref mB, .ref mW, .ref mL, .int lS]))] := hD
    try dsimp only at wr_21
    subst wr_21
    refine lv_if_ne (tgt := 14) hx hb dX8_item_5 (by decide) (fun c_5_21 => ?_) (fun c_5_21 => ?_)
    · have t_5_21 := c_5_21
      try simp only [kb_eq0, kb_ne0, lg_cmp_lt, lg_cmp_le, lg_cmp_gt, lg_cmp_ge, lg_cmp_eq] at t_5_21
      try simp only [Int32.lt_iff_toInt_lt, Int32.le_iff_toInt_le, ← Int32.toInt_inj, Int64.lt_iff_toInt_lt, Int64.le_iff_toInt_le, ← Int64.toInt_inj, Int32.toInt_toInt64, Int32.reduceToInt, Int64.reduceToInt] at t_5_21
      refine lv_iload_n hx hb dX8_item_14 rfl (lv_at hl 2 rfl) ?_
      refine lv_i2l hx hb dX8_item_15 rfl ?_
      refine lv_lconst (v := 0) hx hb dX8_item_16 (by decide) ?_
      refine lv_aload_n hx hb dX8_item_17 rfl (lv_at hl 0 rfl) ?_
      refine va_get (D := D) (ci := 8) (v := .ref mJ) (C := RX8) (T := TX8) (N := 31) hx hb hts iX8_item_X8 hown hK hP 2 rfl rfl 15 (by decide) (hts (.fieldLink RX8 17 "TapeCalculatorModel" "items" "[I") (List.mem_of_getElem? (i := 2) rfl)) (fun _ h9 => h9) rfl dX8_item_18 ?_
      refine lv_iload_n hx hb dX8_item_21 rfl (lv_at hl 1 rfl) ?_
      refine va_iald hx hb hK hP 1 0 rfl rfl (vp_in_iff.mpr (by decide)) dX8_item_22 ?_
      refine lv_topi (fun x_23 ex_23 => ?_)
      obtain rfl : j3 = x_23 := ex_23.symm
      refine lv_iconst (v := 1) hx hb dX8_item_23 (by decide) ?_
      refine lv_isub hx hb dX8_item_24 ?_
      refine lv_i2l hx hb dX8_item_25 rfl ?_
      refine kCallI (wr := [(mI, .inl (cL, 1200, .inr (.inl fI))), (mJ, .inl (cI, 4, .inl (k4i j0 j1 j2 j3))), (m0, .inr (8, [.ref mH, .int aM, .long aC, .int mM, .long mQ, .int oV, .int pL, .int lI, .int sW, .int dP, .int sT, .long aT, .int cH, .int iW, .ref mI, .ref mJ, .ref mS, .ref mD, .int iH, .int aE, .int mN, .long sZ, .ref mX, .int tS, .int tA, .int tW, .ref mA, .ref mB, .ref mW, .ref mL, .int lS]))]) (va_runS (As := [.long i.toInt64, .long 0, .long (j3 - 1).toInt64]) (rest := []) ⟨hx, hb, hml, hown, hts⟩ (q_in l D cI cL cB cZ cT _ (i.toInt64) 0 (j3 - 1).toInt64) (va_cwS 3 hts gX8_item_X8_in rfl rfl rfl (by decide +kernel) ⟨Nat.le_of_ble_eq_true rfl, Nat.le_of_ble_eq_true rfl⟩) (kPreS hG hP hD [] rfl (by decide)) rfl rfl hl.1 rfl (lv_room (Nat.le_of_ble_eq_true rfl)) dX8_item_26 ⟨Nat.le_of_ble_eq_true rfl, Nat.le_of_ble_eq_true rfl⟩) hA hP hD hS [] [0, 1, 2] rfl rfl (by decide) (by decide) (fun r_24 u_r_24 H locs wr_24 hP hD hS => ?_)
      have hP : va_P D vwCl [(mI, .inl (cL, 1200, .inr (.inl fI))), (mJ, .inl (cI, 4, .inl (k4i j0 j1 j2 j3))), (m0, .inr (8, [.ref mH, .int aM, .long aC, .int mM, .long mQ, .int oV, .int pL, .int lI, .int sW, .int dP, .int sT, .long aT, .int cH, .int iW, .ref mI, .ref mJ, .ref mS, .ref mD, .int iH, .int aE, .int mN, .long sZ, .ref mX, .int tS, .int tA, .int tW, .ref mA, .ref mB, .ref mW, .ref mL, .int lS]))] H := hP
      have hD : va_D A [(mI, .inl (cL, 1200, .inr (.inl fI))), (mJ, .inl (cI, 4, .inl (k4i j0 j1 j2 j3))), (m0, .inr (8, [.ref mH, .int aM, .long aC, .int mM, .long mQ, .int oV, .int pL, .int lI, .int sW, .int dP, .int sT, .long aT, .int cH, .int iW, .ref mI, .ref mJ, .ref mS, .ref mD, .int iH, .int aE, .int mN, .long sZ, .ref mX, .int tS, .int tA, .int tW, .ref mA, .ref mB, .ref mW, .ref mL, .int lS]))] := hD
      try dsimp only at wr_24
      subst wr_24
      refine lv_if_eq (tgt := 47) hx hb dX8_item_29 (by decide) (fun c_29_24 => ?_) (fun c_29_24 => ?_)
      · have t_29_24 := c_29_24
        try simp only [kb_eq0, kb_ne0, lg_cmp_lt, lg_cmp_le, lg_cmp_gt, lg_cmp_ge, lg_cmp_eq] at t_29_24
        try simp only [Int32.lt_iff_toInt_lt, Int32.le_iff_toInt_le, ← Int32.toInt_inj, Int64.lt_iff_toInt_lt, Int64.le_iff_toInt_le, ← Int64.toInt_inj, Int32.toInt_toInt64, Int32.reduceToInt, Int64.reduceToInt] at t_29_24
        refine lv_ldc2 (v := (-9)) hx hb hown (hts (.constantLong RX8 107 (-9)) (List.mem_of_getElem? (i := 4) rfl)) dX8_item_47 ?_
        refine kLret (u := ()) hx hb hr hlocks hS dX8_item_50 ?_ (hP.sub [2, 0, 1] rfl) (hD.sub [2, 0, 1] (by decide) rfl)
        exact trivial
      · have t_29_24 := c_29_24
        try simp only [kb_eq0, kb_ne0, lg_cmp_lt, lg_cmp_le, lg_cmp_gt, lg_cmp_ge, lg_cmp_eq] at t_29_24
        try simp only [Int32.lt_iff_toInt_lt, Int32.le_iff_toInt_le, ← Int32.toInt_inj, Int64.lt_iff_toInt_lt, Int64.le_iff_toInt_le, ← Int64.toInt_inj, Int32.toInt_toInt64, Int32.reduceToInt, Int64.reduceToInt] at t_29_24
        refine lv_aload_n hx hb dX8_item_32 rfl (lv_at hl 0 rfl) ?_
        refine va_get (D := D) (ci := 8) (v := .ref mI) (C := RX8) (T := TX8) (N := 31) hx hb hts iX8_item_X8 hown hK hP 2 rfl rfl 14 (by decide) (hts (.fieldLink RX8 13 "TapeCalculatorModel" "item" "[J") (List.mem_of_getElem? (i := 3) rfl)) (fun _ h9 => h9) rfl dX8_item_33 ?_
        refine lv_sipush (v := 300) hx hb dX8_item_36 (by decide) ?_
        refine lv_iload_n hx hb dX8_item_39 rfl (lv_at hl 1 rfl) ?_
        refine lv_imul hx hb dX8_item_40 ?_
        refine lv_topi (fun x_26 ex_26 => ?_)
        obtain rfl : x_26 = 900 := ex_26.trans (by decide)
        refine lv_iload_n hx hb dX8_item_41 rfl (lv_at hl 2 rfl) ?_
        refine lv_iadd hx hb dX8_item_42 ?_
        refine va_lald hx hb hK hP 0 1 rfl rfl (vp_in_iff.mpr (by have hx9 := k_addg (a := 900) (b := i) (by decide) (by omega); simp only [Int32.reduceToInt] at hx9; omega)) dX8_item_43 ?_
        refine lv_goto (tgt := 50) hx hb dX8_item_44 (by decide) ?_
        refine kLret (u := ()) hx hb hr hlocks hS dX8_item_50 ?_ (hP.sub [2, 0, 1] rfl) (hD.sub [2, 0, 1] (by decide) rfl)
        exact trivial
    · have t_5_21 := c_5_21
      try simp only [kb_eq0, kb_ne0, lg_cmp_lt, lg_cmp_le, lg_cmp_gt, lg_cmp_ge, lg_cmp_eq] at t_5_21
      try simp only [Int32.lt_iff_toInt_lt, Int32.le_iff_toInt_le, ← Int32.toInt_inj, Int64.lt_iff_toInt_lt, Int64.le_iff_toInt_le, ← Int64.toInt_inj, Int32.toInt_toInt64, Int32.reduceToInt, Int64.reduceToInt] at t_5_21
      omega
set_option maxRecDepth 100000 in
theorem iX8_lay_X8 : ∀ w ∈ wsX80, w ∈ wsX8_lay := fun w h => (goodIn_r (big := wsX8_lay) wsX80 [15, 16, 17, 18, 19, 20, 21, 22, 23, 24, 25, 26, 27, 28, 29, 30, 31, 32, 33, 34, 35, 36, 37, 38, 39, 40, 41, 42, 43, 44, 45] rfl (by decide +kernel) w h).1
set_option maxRecDepth 100000 in
set_option maxHeartbeats 4000000 in
theorem q_lay (l : Launch) (D : va_G) (cI cL cB cZ cT : ClassId) (sz : Nat) (m0 mH mI mJ mS mD mX mA mB mW mL : Nat) (aM : Int32) (aC : Int64) (mM : Int32) (mQ : Int64) (oV pL lI sW dP sT : Int32) (aT : Int64) (cH iW iH aE mN : Int32) (sZ : Int64) (tS tA tW lS : Int32) (fI : Nat → Int64) (j0 j1 j2 j3 : Int32) (t : Int32) (v : Int64) (s0 s1 s2 s3 : Int32) (ht0 : jT_ s0 j0) (ht1 : jT_ s1 j1) (ht2 : jT_ s2 j2) (ht3 : jT_ s3 j3) : kM (S := ((Nat → Int64) × Int32 × Int32 × Int32 × Int32)) l yX8_lay wsX8_lay ({ frames := 2, cells := 0, slots := 0, locals := 46 }) D (kT cI cL cB cZ cT) [.ref m0, .int t, .long v] [(m0, .inr (8, [.ref mH, .int aM, .long aC, .int mM, .long mQ, .int oV, .int pL, .int lI, .int sW, .int dP, .int sT, .long aT, .int cH, .int iW, .ref mI, .ref mJ, .ref mS, .ref mD, .int iH, .int aE, .int mN, .long sZ, .ref mX, .int tS, .int tA, .int tW, .ref mA, .ref mB, .ref mW, .ref mL, .int lS])), (mI, .inl (cL, 1200, .inr (.inl fI))), (mJ, .inl (cI, 4, .inl (k4i j0 j1 j2 j3)))] sz eI (fun r u => jT_ s0 (u.2.1) ∧ jT_ s1 (u.2.2.1) ∧ jT_ s2 (u.2.2.2.1) ∧ jT_ s3 (u.2.2.2.2)) (fun u => [(m0, .inr (8, [.ref mH, .int aM, .long aC, .int mM, .long mQ, .int oV, .int pL, .int lI, .int sW, .int dP, .int sT, .long aT, .int cH, .int iW, .ref mI, .ref mJ, .ref mS, .ref mD, .int iH, .int aE, .int mN, .long sZ, .ref mX, .int tS, .int tA, .int tW, .ref mA, .ref mB, .ref mW, .ref mL, .int lS])), (mI, .inl (cL, 1200, .inr (.inl u.1))), (mJ, .inl (cI, 4, .inl (k4i u.2.1 u.2.2.1 u.2.2.2.1 u.2.2.2.2)))]) 0 0 := by
  refine kStart (cc := cX8_lay) (maxL := 4) (ret := (some .int)) (own := RX8) (by decide) rfl rfl (Nat.le_of_ble_eq_true rfl) ?_
  intro p e s m args below meth c A ls hx hb hr hml hown hts hlocks hnm hsz hA hG hP hD hS hl
  have hK := hG.1
  have hl : lv_has ls 4 [(0, .ref m0), (1, .int t), (2, .long v)] := hl
  rcases ksw_0_3 t with hsw | rfl | rfl | rfl | rfl
  · refine lv_aload_n hx hb dX8_lay_0 rfl (lv_at hl 0 rfl) ?_
    refine lv_iload_n hx hb dX8_lay_1 rfl (lv_at hl 1 rfl) ?_
    refine kCallI (wr := [(mI, .inl (cL, 1200, .inr (.inl fI))), (mJ, .inl (cI, 4, .inl (k4i j0 j1 j2 j3)))]) (va_runV (As := [.int t]) (rest := []) ⟨hx, hb, hml, hown, hts⟩ (q_isTape l D cI cL cB cZ cT _ m0 mH mI mJ mS mD mX mA mB mW mL aM aC mM mQ oV pL lI sW dP sT aT cH iW iH aE mN sZ tS tA tW lS t) (cwV 1 hts gX8_lay_X8_isTape rfl rfl rfl (by decide +kernel) ⟨Nat.le_of_ble_eq_true rfl, Nat.le_of_ble_eq_true rfl⟩) (kPreV hG hP hD [0] rfl (by decide) 0 8 rfl rfl rfl) rfl rfl hl.1 rfl (lv_room (Nat.le_of_ble_eq_true rfl)) dX8_lay_2 ⟨Nat.le_of_ble_eq_true rfl, Nat.le_of_ble_eq_true rfl⟩) hA hP hD hS [0] [1, 2] rfl rfl (by decide) (by decide) (fun r_1 u_r_1 H locs wr_1 hP hD hS => ?_)
    have hP : va_P D vwCl [(mI, .inl (cL, 1200, .inr (.inl fI))), (mJ, .inl (cI, 4, .inl (k4i j0 j1 j2 j3))), (m0, .inr (8, [.ref mH, .int aM, .long aC, .int mM, .long mQ, .int oV, .int pL, .int lI, .int sW, .int dP, .int sT, .long aT, .int cH, .int iW, .ref mI, .ref mJ, .ref mS, .ref mD, .int iH, .int aE, .int mN, .long sZ, .ref mX, .int tS, .int tA, .int tW, .ref mA, .ref mB, .ref mW, .ref mL, .int lS]))] H := hP
    have hD : va_D A [(mI, .inl (cL, 1200, .inr (.inl fI))), (mJ, .inl (cI, 4, .inl (k4i j0 j1 j2 j3))), (m0, .inr (8, [.ref mH, .int aM, .long aC, .int mM, .long mQ, .int oV, .int pL, .int lI, .int sW, .int dP, .int sT, .long aT, .int cH, .int iW, .ref mI, .ref mJ, .ref mS, .ref mD, .int iH, .int aE, .int mN, .long sZ, .ref mX, .int tS, .int tA, .int tW, .ref mA, .ref mB, .ref mW, .ref mL, .int lS]))] := hD
    try dsimp only at wr_1
    subst wr_1
    refine lv_if_eq (tgt := 35) hx hb dX8_lay_5 (by decide) (fun c_5_1 => ?_) (fun c_5_1 => ?_)
    · have t_5_1 := c_5_1
      try simp only [kb_eq0, kb_ne0, lg_cmp_lt, lg_cmp_le, lg_cmp_gt, lg_cmp_ge, lg_cmp_eq] at t_5_1
      try simp only [Int32.lt_iff_toInt_lt, Int32.le_iff_toInt_le, ← Int32.toInt_inj, Int64.lt_iff_toInt_lt, Int64.le_iff_toInt_le, ← Int64.toInt_inj, Int32.toInt_toInt64, Int32.reduceToInt, Int64.reduceToInt] at t_5_1
      refine lv_iconst (v := (-1)) hx hb dX8_lay_35 (by decide) ?_
      refine kIret (u := (fI, j0, j1, j2, j3)) hx hb hr rfl hlocks hS dX8_lay_36 ?_ (hP.sub [2, 0, 1] rfl) (hD.sub [2, 0, 1] (by decide) rfl)
      try dsimp only
      repeat' (with_reducible apply And.intro)
      all_goals first | with_reducible assumption | ((try simp only [jT_, jP_, jD_, jC_, jB_, jW_, Int32.reduceToInt, Int64.reduceToInt, true_or, or_true, true_and, and_true]) <;> omega)
    · have t_5_1 := c_5_1
      try simp only [kb_eq0, kb_ne0, lg_cmp_lt, lg_cmp_le, lg_cmp_gt, lg_cmp_ge, lg_cmp_eq] at t_5_1
      try simp only [Int32.lt_iff_toInt_lt, Int32.le_iff_toInt_le, ← Int32.toInt_inj, Int64.lt_iff_toInt_lt, Int64.le_iff_toInt_le, ← Int64.toInt_inj, Int32.toInt_toInt64, Int32.reduceToInt, Int64.reduceToInt] at t_5_1
      omega
  · have hu0 : 0 ≤ s0.toInt ∧ s0.toInt ≤ j0.toInt ∧ j0.toInt ≤ 300 := ht0
    have hs1 := k_addg (a := j0) (b := 1) (by omega) (by decide)
    simp only [Int32.reduceToInt] at hs1
    refine lv_aload_n hx hb dX8_lay_0 rfl (lv_at hl 0 rfl) ?_
    refine lv_iload_n hx hb dX8_lay_1 rfl (lv_at hl 1 rfl) ?_
    refine kCallI (wr := [(mI, .inl (cL, 1200, .inr (.inl fI))), (mJ, .inl (cI, 4, .inl (k4i j0 j1 j2 j3)))]) (va_runV (As := [.int 0]) (rest := []) ⟨hx, hb, hml, hown, hts⟩ (q_isTape l D cI cL cB cZ cT _ m0 mH mI mJ mS mD mX mA mB mW mL aM aC mM mQ oV pL lI sW dP sT aT cH iW iH aE mN sZ tS tA tW lS 0) (cwV 1 hts gX8_lay_X8_isTape rfl rfl rfl (by decide +kernel) ⟨Nat.le_of_ble_eq_true rfl, Nat.le_of_ble_eq_true rfl⟩) (kPreV hG hP hD [0] rfl (by decide) 0 8 rfl rfl rfl) rfl rfl hl.1 rfl (lv_room (Nat.le_of_ble_eq_true rfl)) dX8_lay_2 ⟨Nat.le_of_ble_eq_true rfl, Nat.le_of_ble_eq_true rfl⟩) hA hP hD hS [0] [1, 2] rfl rfl (by decide) (by decide) (fun r_3 u_r_3 H locs wr_3 hP hD hS => ?_)
    have hP : va_P D vwCl [(mI, .inl (cL, 1200, .inr (.inl fI))), (mJ, .inl (cI, 4, .inl (k4i j0 j1 j2 j3))), (m0, .inr (8, [.ref mH, .int aM, .long aC, .int mM, .long mQ, .int oV, .int pL, .int lI, .int sW, .int dP, .int sT, .long aT, .int cH, .int iW, .ref mI, .ref mJ, .ref mS, .ref mD, .int iH, .int aE, .int mN, .long sZ, .ref mX, .int tS, .int tA, .int tW, .ref mA, .ref mB, .ref mW, .ref mL, .int lS]))] H := hP
    have hD : va_D A [(mI, .inl (cL, 1200, .inr (.inl fI))), (mJ, .inl (cI, 4, .inl (k4i j0 j1 j2 j3))), (m0, .inr (8, [.ref mH, .int aM, .long aC, .int mM, .long mQ, .int oV, .int pL, .int lI, .int sW, .int dP, .int sT, .long aT, .int cH, .int iW, .ref mI, .ref mJ, .ref mS, .ref mD, .int iH, .int aE, .int mN, .long sZ, .ref mX, .int tS, .int tA, .int tW, .ref mA, .ref mB, .ref mW, .ref mL, .int lS]))] := hD
    try dsimp only at wr_3
    subst wr_3
    refine lv_if_eq (tgt := 35) hx hb dX8_lay_5 (by decide) (fun c_5_3 => ?_) (fun c_5_3 => ?_)
    · have t_5_3 := c_5_3
      try simp only [kb_eq0, kb_ne0, lg_cmp_lt, lg_cmp_le, lg_cmp_gt, lg_cmp_ge, lg_cmp_eq] at t_5_3
      try simp only [Int32.lt_iff_toInt_lt, Int32.le_iff_toInt_le, ← Int32.toInt_inj, Int64.lt_iff_toInt_lt, Int64.le_iff_toInt_le, ← Int64.toInt_inj, Int32.toInt_toInt64, Int32.reduceToInt, Int64.reduceToInt] at t_5_3
      omega
    · have t_5_3 := c_5_3
      try simp only [kb_eq0, kb_ne0, lg_cmp_lt, lg_cmp_le, lg_cmp_gt, lg_cmp_ge, lg_cmp_eq] at t_5_3
      try simp only [Int32.lt_iff_toInt_lt, Int32.le_iff_toInt_le, ← Int32.toInt_inj, Int64.lt_iff_toInt_lt, Int64.le_iff_toInt_le, ← Int64.toInt_inj, Int32.toInt_toInt64, Int32.reduceToInt, Int64.reduceToInt] at t_5_3
      refine lv_lload_n hx hb dX8_lay_8 rfl (lv_at hl 2 rfl) ?_
      refine lv_lconst (v := 0) hx hb dX8_lay_9 (by decide) ?_
      refine lv_ldc2 (v := 68719476735) hx hb hown (hts (.constantLong RX8 109 (68719476735)) (List.mem_of_getElem? (i := 1) rfl)) dX8_lay_10 ?_
      refine kCallI (wr := [(mI, .inl (cL, 1200, .inr (.inl fI))), (mJ, .inl (cI, 4, .inl (k4i j0 j1 j2 j3))), (m0, .inr (8, [.ref mH, .int aM, .long aC, .int mM, .long mQ, .int oV, .int pL, .int lI, .int sW, .int dP, .int sT, .long aT, .int cH, .int iW, .ref mI, .ref mJ, .ref mS, .ref mD, .int iH, .int aE, .int mN, .long sZ, .ref mX, .int tS, .int tA, .int tW, .ref mA, .ref mB, .ref mW, .ref mL, .int lS]))]) (va_runS (As := [.long v, .long 0, .long 68719476735]) (rest := []) ⟨hx, hb, hml, hown, hts⟩ (q_in l D cI cL cB cZ cT _ v 0 68719476735) (va_cwS 3 hts gX8_lay_X8_in rfl rfl rfl (by decide +kernel) ⟨Nat.le_of_ble_eq_true rfl, Nat.le_of_ble_eq_true rfl⟩) (kPreS hG hP hD [] rfl (by decide)) rfl rfl hl.1 rfl (lv_room (Nat.le_of_ble_eq_true rfl)) dX8_lay_13 ⟨Nat.le_of_ble_eq_true rfl, Nat.le_of_ble_eq_true rfl⟩) hA hP hD hS [] [0, 1, 2] rfl rfl (by decide) (by decide) (fun r_5 u_r_5 H locs wr_5 hP hD hS => ?_)
      have hP : va_P D vwCl [(mI, .inl (cL, 1200, .inr (.inl fI))), (mJ, .inl (cI, 4, .inl (k4i j0 j1 j2 j3))), (m0, .inr (8, [.ref mH, .int aM, .long aC, .int mM, .long mQ, .int oV, .int pL, .int lI, .int sW, .int dP, .int sT, .long aT, .int cH, .int iW, .ref mI, .ref mJ, .ref mS, .ref mD, .int iH, .int aE, .int mN, .long sZ, .ref mX, .int tS, .int tA, .int tW, .ref mA, .ref mB, .ref mW, .ref mL, .int lS]))] H := hP
      have hD : va_D A [(mI, .inl (cL, 1200, .inr (.inl fI))), (mJ, .inl (cI, 4, .inl (k4i j0 j1 j2 j3))), (m0, .inr (8, [.ref mH, .int aM, .long aC, .int mM, .long mQ, .int oV, .int pL, .int lI, .int sW, .int dP, .int sT, .long aT, .int cH, .int iW, .ref mI, .ref mJ, .ref mS, .ref mD, .int iH, .int aE, .int mN, .long sZ, .ref mX, .int tS, .int tA, .int tW, .ref mA, .ref mB, .ref mW, .ref mL, .int lS]))] := hD
      try dsimp only at wr_5
      subst wr_5
      refine lv_if_ne (tgt := 37) hx hb dX8_lay_16 (by decide) (fun c_16_5 => ?_) (fun c_16_5 => ?_)
      · have t_16_5 := c_16_5
        try simp only [kb_eq0, kb_ne0, lg_cmp_lt, lg_cmp_le, lg_cmp_gt, lg_cmp_ge, lg_cmp_eq] at t_16_5
        try simp only [Int32.lt_iff_toInt_lt, Int32.le_iff_toInt_le, ← Int32.toInt_inj, Int64.lt_iff_toInt_lt, Int64.le_iff_toInt_le, ← Int64.toInt_inj, Int32.toInt_toInt64, Int32.reduceToInt, Int64.reduceToInt] at t_16_5
        refine lv_aload_n hx hb dX8_lay_37 rfl (lv_at hl 0 rfl) ?_
        refine va_get (D := D) (ci := 8) (v := .ref mJ) (C := RX8) (T := TX8) (N := 31) hx hb hts iX8_lay_X8 hown hK hP 2 rfl rfl 15 (by decide) (hts (.fieldLink RX8 17 "TapeCalculatorModel" "items" "[I") (List.mem_of_getElem? (i := 4) rfl)) (fun _ h9 => h9) rfl dX8_lay_38 ?_
        refine lv_iload_n hx hb dX8_lay_41 rfl (lv_at hl 1 rfl) ?_
        refine va_iald hx hb hK hP 1 0 rfl rfl (vp_in_iff.mpr (by decide)) dX8_lay_42 ?_
        refine lv_topi (fun x_7 ex_7 => ?_)
        obtain rfl : j0 = x_7 := ex_7.symm
        refine lv_sipush (v := 300) hx hb dX8_lay_43 (by decide) ?_
        refine lv_icmp_ne (tgt := 52) hx hb dX8_lay_46 (by decide) (fun c_46_7 => ?_) (fun c_46_7 => ?_)
        · have t_46_7 := c_46_7
          try simp only [kb_eq0, kb_ne0, lg_cmp_lt, lg_cmp_le, lg_cmp_gt, lg_cmp_ge, lg_cmp_eq] at t_46_7
          try simp only [Int32.lt_iff_toInt_lt, Int32.le_iff_toInt_le, ← Int32.toInt_inj, Int64.lt_iff_toInt_lt, Int64.le_iff_toInt_le, ← Int64.toInt_inj, Int32.toInt_toInt64, Int32.reduceToInt, Int64.reduceToInt] at t_46_7
          refine lv_aload_n hx hb dX8_lay_52 rfl (lv_at hl 0 rfl) ?_
          refine va_get (D := D) (ci := 8) (v := .ref mI) (C := RX8) (T := TX8) (N := 31) hx hb hts iX8_lay_X8 hown hK hP 2 rfl rfl 14 (by decide) (hts (.fieldLink RX8 13 "TapeCalculatorModel" "item" "[J") (List.mem_of_getElem? (i := 5) rfl)) (fun _ h9 => h9) rfl dX8_lay_53 ?_
          refine lv_sipush (v := 300) hx hb dX8_lay_56 (by decide) ?_
          refine lv_iload_n hx hb dX8_lay_59 rfl (lv_at hl 1 rfl) ?_
          refine lv_imul hx hb dX8_lay_60 ?_
          refine lv_topi (fun x_9 ex_9 => ?_)
          obtain rfl : x_9 = 0 := ex_9.trans (by decide)
          refine lv_aload_n hx hb dX8_lay_61 rfl (lv_at hl 0 rfl) ?_
          refine va_get (D := D) (ci := 8) (v := .ref mJ) (C := RX8) (T := TX8) (N := 31) hx hb hts iX8_lay_X8 hown hK hP 2 rfl rfl 15 (by decide) (hts (.fieldLink RX8 17 "TapeCalculatorModel" "items" "[I") (List.mem_of_getElem? (i := 4) rfl)) (fun _ h9 => h9) rfl dX8_lay_62 ?_
          refine lv_iload_n hx hb dX8_lay_65 rfl (lv_at hl 1 rfl) ?_
          refine va_iald hx hb hK hP 1 0 rfl rfl (vp_in_iff.mpr (by decide)) dX8_lay_66 ?_
          refine lv_topi (fun x_10 ex_10 => ?_)
          obtain rfl : j0 = x_10 := ex_10.symm
          refine lv_iadd hx hb dX8_lay_67 ?_
          refine lv_lload_n hx hb dX8_lay_68 rfl (lv_at hl 2 rfl) ?_
          refine va_last hx hb hK hP hD hS 0 1 rfl rfl (vp_in_iff.mpr (by have hx9 := k_addg (a := 0) (b := j0) (by decide) (by omega); simp only [Int32.reduceToInt] at hx9; omega)) dX8_lay_69 (fun H locs hP hD hS => ?_)
          have hP : va_P D vwCl [(mI, .inl (cL, 1200, .inr (.inl (vp_updL fI (0 + j0).toNatClampNeg v)))), (mJ, .inl (cI, 4, .inl (k4i j0 j1 j2 j3))), (m0, .inr (8, [.ref mH, .int aM, .long aC, .int mM, .long mQ, .int oV, .int pL, .int lI, .int sW, .int dP, .int sT, .long aT, .int cH, .int iW, .ref mI, .ref mJ, .ref mS, .ref mD, .int iH, .int aE, .int mN, .long sZ, .ref mX, .int tS, .int tA, .int tW, .ref mA, .ref mB, .ref mW, .ref mL, .int lS]))] H := hP
          have hD : va_D A [(mI, .inl (cL, 1200, .inr (.inl (vp_updL fI (0 + j0).toNatClampNeg v)))), (mJ, .inl (cI, 4, .inl (k4i j0 j1 j2 j3))), (m0, .inr (8, [.ref mH, .int aM, .long aC, .int mM, .long mQ, .int oV, .int pL, .int lI, .int sW, .int dP, .int sT, .long aT, .int cH, .int iW, .ref mI, .ref mJ, .ref mS, .ref mD, .int iH, .int aE, .int mN, .long sZ, .ref mX, .int tS, .int tA, .int tW, .ref mA, .ref mB, .ref mW, .ref mL, .int lS]))] := hD
          refine lv_aload_n hx hb dX8_lay_70 rfl (lv_at hl 0 rfl) ?_
          refine va_get (D := D) (ci := 8) (v := .ref mJ) (C := RX8) (T := TX8) (N := 31) hx hb hts iX8_lay_X8 hown hK hP 2 rfl rfl 15 (by decide) (hts (.fieldLink RX8 17 "TapeCalculatorModel" "items" "[I") (List.mem_of_getElem? (i := 4) rfl)) (fun _ h9 => h9) rfl dX8_lay_71 ?_
          refine lv_iload_n hx hb dX8_lay_74 rfl (lv_at hl 1 rfl) ?_
          refine lv_dup2_11 hx hb dX8_lay_75 rfl rfl ?_
          refine va_iald hx hb hK hP 1 0 rfl rfl (vp_in_iff.mpr (by decide)) dX8_lay_76 ?_
          refine lv_topi (fun x_11 ex_11 => ?_)
          obtain rfl : j0 = x_11 := ex_11.symm
          refine lv_iconst (v := 1) hx hb dX8_lay_77 (by decide) ?_
          refine lv_iadd hx hb dX8_lay_78 ?_
          refine va_iast hx hb hK hP hD hS 1 0 rfl rfl (vp_in_iff.mpr (by decide)) dX8_lay_79 (fun H locs hP hD hS => ?_)
          rw [k4i_0] at hP hD
          have hP : va_P D vwCl [(mI, .inl (cL, 1200, .inr (.inl (vp_updL fI (0 + j0).toNatClampNeg v)))), (mJ, .inl (cI, 4, .inl (k4i (j0 + 1) j1 j2 j3))), (m0, .inr (8, [.ref mH, .int aM, .long aC, .int mM, .long mQ, .int oV, .int pL, .int lI, .int sW, .int dP, .int sT, .long aT, .int cH, .int iW, .ref mI, .ref mJ, .ref mS, .ref mD, .int iH, .int aE, .int mN, .long sZ, .ref mX, .int tS, .int tA, .int tW, .ref mA, .ref mB, .ref mW, .ref mL, .int lS]))] H := hP
          have hD : va_D A [(mI, .inl (cL, 1200, .inr (.inl (vp_updL fI (0 + j0).toNatClampNeg v)))), (mJ, .inl (cI, 4, .inl (k4i (j0 + 1) j1 j2 j3))), (m0, .inr (8, [.ref mH, .int aM, .long aC, .int mM, .long mQ, .int oV, .int pL, .int lI, .int sW, .int dP, .int sT, .long aT, .int cH, .int iW, .ref mI, .ref mJ, .ref mS, .ref mD, .int iH, .int aE, .int mN, .long sZ, .ref mX, .int tS, .int tA, .int tW, .ref mA, .ref mB, .ref mW, .ref mL, .int lS]))] := hD
          refine lv_aload_n hx hb dX8_lay_80 rfl (lv_at hl 0 rfl) ?_
          refine va_get (D := D) (ci := 8) (v := .ref mJ) (C := RX8) (T := TX8) (N := 31) hx hb hts iX8_lay_X8 hown hK hP 2 rfl rfl 15 (by decide) (hts (.fieldLink RX8 17 "TapeCalculatorModel" "items" "[I") (List.mem_of_getElem? (i := 4) rfl)) (fun _ h9 => h9) rfl dX8_lay_81 ?_
          refine lv_iload_n hx hb dX8_lay_84 rfl (lv_at hl 1 rfl) ?_
          refine va_iald hx hb hK hP 1 0 rfl rfl (vp_in_iff.mpr (by decide)) dX8_lay_85 ?_
          refine lv_topi (fun x_12 ex_12 => ?_)
          obtain rfl : (j0 + 1) = x_12 := ex_12.symm
          refine kIret (u := ((vp_updL fI (0 + j0).toNatClampNeg v), (j0 + 1), j1, j2, j3)) hx hb hr rfl hlocks hS dX8_lay_86 ?_ (hP.sub [2, 0, 1] rfl) (hD.sub [2, 0, 1] (by decide) rfl)
          try dsimp only
          repeat' (with_reducible apply And.intro)
          all_goals first | with_reducible assumption | ((try simp only [jT_, jP_, jD_, jC_, jB_, jW_, Int32.reduceToInt, Int64.reduceToInt, true_or, or_true, true_and, and_true]) <;> omega)
        · have t_46_7 := c_46_7
          try simp only [kb_eq0, kb_ne0, lg_cmp_lt, lg_cmp_le, lg_cmp_gt, lg_cmp_ge, lg_cmp_eq] at t_46_7
          try simp only [Int32.lt_iff_toInt_lt, Int32.le_iff_toInt_le, ← Int32.toInt_inj, Int64.lt_iff_toInt_lt, Int64.le_iff_toInt_le, ← Int64.toInt_inj, Int32.toInt_toInt64, Int32.reduceToInt, Int64.reduceToInt] at t_46_7
          refine lv_bipush (v := (-2)) hx hb dX8_lay_49 (by decide) ?_
          refine kIret (u := (fI, j0, j1, j2, j3)) hx hb hr rfl hlocks hS dX8_lay_51 ?_ (hP.sub [2, 0, 1] rfl) (hD.sub [2, 0, 1] (by decide) rfl)
          try dsimp only
          repeat' (with_reducible apply And.intro)
          all_goals first | with_reducible assumption | ((try simp only [jT_, jP_, jD_, jC_, jB_, jW_, Int32.reduceToInt, Int64.reduceToInt, true_or, or_true, true_and, and_true]) <;> omega)
      · have t_16_5 := c_16_5
        try simp only [kb_eq0, kb_ne0, lg_cmp_lt, lg_cmp_le, lg_cmp_gt, lg_cmp_ge, lg_cmp_eq] at t_16_5
        try simp only [Int32.lt_iff_toInt_lt, Int32.le_iff_toInt_le, ← Int32.toInt_inj, Int64.lt_iff_toInt_lt, Int64.le_iff_toInt_le, ← Int64.toInt_inj, Int32.toInt_toInt64, Int32.reduceToInt, Int64.reduceToInt] at t_16_5
        refine lv_lload_n hx hb dX8_lay_19 rfl (lv_at hl 2 rfl) ?_
        refine lv_ldc2 (v := (-2)) hx hb hown (hts (.constantLong RX8 111 (-2)) (List.mem_of_getElem? (i := 2) rfl)) dX8_lay_20 ?_
        refine W.lcmp hx hb dX8_lay_23 ?_
        refine lv_if_eq (tgt := 37) hx hb dX8_lay_24 (by decide) (fun c_24_12 => ?_) (fun c_24_12 => ?_)
        · have t_24_12 := c_24_12
          try simp only [kb_eq0, kb_ne0, lg_cmp_lt, lg_cmp_le, lg_cmp_gt, lg_cmp_ge, lg_cmp_eq] at t_24_12
          try simp only [Int32.lt_iff_toInt_lt, Int32.le_iff_toInt_le, ← Int32.toInt_inj, Int64.lt_iff_toInt_lt, Int64.le_iff_toInt_le, ← Int64.toInt_inj, Int32.toInt_toInt64, Int32.reduceToInt, Int64.reduceToInt] at t_24_12
          refine lv_aload_n hx hb dX8_lay_37 rfl (lv_at hl 0 rfl) ?_
          refine va_get (D := D) (ci := 8) (v := .ref mJ) (C := RX8) (T := TX8) (N := 31) hx hb hts iX8_lay_X8 hown hK hP 2 rfl rfl 15 (by decide) (hts (.fieldLink RX8 17 "TapeCalculatorModel" "items" "[I") (List.mem_of_getElem? (i := 4) rfl)) (fun _ h9 => h9) rfl dX8_lay_38 ?_
          refine lv_iload_n hx hb dX8_lay_41 rfl (lv_at hl 1 rfl) ?_
          refine va_iald hx hb hK hP 1 0 rfl rfl (vp_in_iff.mpr (by decide)) dX8_lay_42 ?_
          refine lv_topi (fun x_14 ex_14 => ?_)
          obtain rfl : j0 = x_14 := ex_14.symm
          refine lv_sipush (v := 300) hx hb dX8_lay_43 (by decide) ?_
          refine lv_icmp_ne (tgt := 52) hx hb dX8_lay_46 (by decide) (fun c_46_14 => ?_) (fun c_46_14 => ?_)
          · have t_46_14 := c_46_14
            try simp only [kb_eq0, kb_ne0, lg_cmp_lt, lg_cmp_le, lg_cmp_gt, lg_cmp_ge, lg_cmp_eq] at t_46_14
            try simp only [Int32.lt_iff_toInt_lt, Int32.le_iff_toInt_le, ← Int32.toInt_inj, Int64.lt_iff_toInt_lt, Int64.le_iff_toInt_le, ← Int64.toInt_inj, Int32.toInt_toInt64, Int32.reduceToInt, Int64.reduceToInt] at t_46_14
            refine lv_aload_n hx hb dX8_lay_52 rfl (lv_at hl 0 rfl) ?_
            refine va_get (D := D) (ci := 8) (v := .ref mI) (C := RX8) (T := TX8) (N := 31) hx hb hts iX8_lay_X8 hown hK hP 2 rfl rfl 14 (by decide) (hts (.fieldLink RX8 13 "TapeCalculatorModel" "item" "[J") (List.mem_of_getElem? (i := 5) rfl)) (fun _ h9 => h9) rfl dX8_lay_53 ?_
            refine lv_sipush (v := 300) hx hb dX8_lay_56 (by decide) ?_
            refine lv_iload_n hx hb dX8_lay_59 rfl (lv_at hl 1 rfl) ?_
            refine lv_imul hx hb dX8_lay_60 ?_
            refine lv_topi (fun x_16 ex_16 => ?_)
            obtain rfl : x_16 = 0 := ex_16.trans (by decide)
            refine lv_aload_n hx hb dX8_lay_61 rfl (lv_at hl 0 rfl) ?_
            refine va_get (D := D) (ci := 8) (v := .ref mJ) (C := RX8) (T := TX8) (N := 31) hx hb hts iX8_lay_X8 hown hK hP 2 rfl rfl 15 (by decide) (hts (.fieldLink RX8 17 "TapeCalculatorModel" "items" "[I") (List.mem_of_getElem? (i := 4) rfl)) (fun _ h9 => h9) rfl dX8_lay_62 ?_
            refine lv_iload_n hx hb dX8_lay_65 rfl (lv_at hl 1 rfl) ?_
            refine va_iald hx hb hK hP 1 0 rfl rfl (vp_in_iff.mpr (by decide)) dX8_lay_66 ?_
            refine lv_topi (fun x_17 ex_17 => ?_)
            obtain rfl : j0 = x_17 := ex_17.symm
            refine lv_iadd hx hb dX8_lay_67 ?_
            refine lv_lload_n hx hb dX8_lay_68 rfl (lv_at hl 2 rfl) ?_
            refine va_last hx hb hK hP hD hS 0 1 rfl rfl (vp_in_iff.mpr (by have hx9 := k_addg (a := 0) (b := j0) (by decide) (by omega); simp only [Int32.reduceToInt] at hx9; omega)) dX8_lay_69 (fun H locs hP hD hS => ?_)
            have hP : va_P D vwCl [(mI, .inl (cL, 1200, .inr (.inl (vp_updL fI (0 + j0).toNatClampNeg v)))), (mJ, .inl (cI, 4, .inl (k4i j0 j1 j2 j3))), (m0, .inr (8, [.ref mH, .int aM, .long aC, .int mM, .long mQ, .int oV, .int pL, .int lI, .int sW, .int dP, .int sT, .long aT, .int cH, .int iW, .ref mI, .ref mJ, .ref mS, .ref mD, .int iH, .int aE, .int mN, .long sZ, .ref mX, .int tS, .int tA, .int tW, .ref mA, .ref mB, .ref mW, .ref mL, .int lS]))] H := hP
            have hD : va_D A [(mI, .inl (cL, 1200, .inr (.inl (vp_updL fI (0 + j0).toNatClampNeg v)))), (mJ, .inl (cI, 4, .inl (k4i j0 j1 j2 j3))), (m0, .inr (8, [.ref mH, .int aM, .long aC, .int mM, .long mQ, .int oV, .int pL, .int lI, .int sW, .int dP, .int sT, .long aT, .int cH, .int iW, .ref mI, .ref mJ, .ref mS, .ref mD, .int iH, .int aE, .int mN, .long sZ, .ref mX, .int tS, .int tA, .int tW, .ref mA, .ref mB, .ref mW, .ref mL, .int lS]))] := hD
            refine lv_aload_n hx hb dX8_lay_70 rfl (lv_at hl 0 rfl) ?_
            refine va_get (D := D) (ci := 8) (v := .ref mJ) (C := RX8) (T := TX8) (N := 31) hx hb hts iX8_lay_X8 hown hK hP 2 rfl rfl 15 (by decide) (hts (.fieldLink RX8 17 "TapeCalculatorModel" "items" "[I") (List.mem_of_getElem? (i := 4) rfl)) (fun _ h9 => h9) rfl dX8_lay_71 ?_
            refine lv_iload_n hx hb dX8_lay_74 rfl (lv_at hl 1 rfl) ?_
            refine lv_dup2_11 hx hb dX8_lay_75 rfl rfl ?_
            refine va_iald hx hb hK hP 1 0 rfl rfl (vp_in_iff.mpr (by decide)) dX8_lay_76 ?_
            refine lv_topi (fun x_18 ex_18 => ?_)
            obtain rfl : j0 = x_18 := ex_18.symm
            refine lv_iconst (v := 1) hx hb dX8_lay_77 (by decide) ?_
            refine lv_iadd hx hb dX8_lay_78 ?_
            refine va_iast hx hb hK hP hD hS 1 0 rfl rfl (vp_in_iff.mpr (by decide)) dX8_lay_79 (fun H locs hP hD hS => ?_)
            rw [k4i_0] at hP hD
            have hP : va_P D vwCl [(mI, .inl (cL, 1200, .inr (.inl (vp_updL fI (0 + j0).toNatClampNeg v)))), (mJ, .inl (cI, 4, .inl (k4i (j0 + 1) j1 j2 j3))), (m0, .inr (8, [.ref mH, .int aM, .long aC, .int mM, .long mQ, .int oV, .int pL, .int lI, .int sW, .int dP, .int sT, .long aT, .int cH, .int iW, .ref mI, .ref mJ, .ref mS, .ref mD, .int iH, .int aE, .int mN, .long sZ, .ref mX, .int tS, .int tA, .int tW, .ref mA, .ref mB, .ref mW, .ref mL, .int lS]))] H := hP
            have hD : va_D A [(mI, .inl (cL, 1200, .inr (.inl (vp_updL fI (0 + j0).toNatClampNeg v)))), (mJ, .inl (cI, 4, .inl (k4i (j0 + 1) j1 j2 j3))), (m0, .inr (8, [.ref mH, .int aM, .long aC, .int mM, .long mQ, .int oV, .int pL, .int lI, .int sW, .int dP, .int sT, .long aT, .int cH, .int iW, .ref mI, .ref mJ, .ref mS, .ref mD, .int iH, .int aE, .int mN, .long sZ, .ref mX, .int tS, .int tA, .int tW, .ref mA, .ref mB, .ref mW, .ref mL, .int lS]))] := hD
            refine lv_aload_n hx hb dX8_lay_80 rfl (lv_at hl 0 rfl) ?_
            refine va_get (D := D) (ci := 8) (v := .ref mJ) (C := RX8) (T := TX8) (N := 31) hx hb hts iX8_lay_X8 hown hK hP 2 rfl rfl 15 (by decide) (hts (.fieldLink RX8 17 "TapeCalculatorModel" "items" "[I") (List.mem_of_getElem? (i := 4) rfl)) (fun _ h9 => h9) rfl dX8_lay_81 ?_
            refine lv_iload_n hx hb dX8_lay_84 rfl (lv_at hl 1 rfl) ?_
            refine va_iald hx hb hK hP 1 0 rfl rfl (vp_in_iff.mpr (by decide)) dX8_lay_85 ?_
            refine lv_topi (fun x_19 ex_19 => ?_)
            obtain rfl : (j0 + 1) = x_19 := ex_19.symm
            refine kIret (u := ((vp_updL fI (0 + j0).toNatClampNeg v), (j0 + 1), j1, j2, j3)) hx hb hr rfl hlocks hS dX8_lay_86 ?_ (hP.sub [2, 0, 1] rfl) (hD.sub [2, 0, 1] (by decide) rfl)
            try dsimp only
            repeat' (with_reducible apply And.intro)
            all_goals first | with_reducible assumption | ((try simp only [jT_, jP_, jD_, jC_, jB_, jW_, Int32.reduceToInt, Int64.reduceToInt, true_or, or_true, true_and, and_true]) <;> omega)
          · have t_46_14 := c_46_14
            try simp only [kb_eq0, kb_ne0, lg_cmp_lt, lg_cmp_le, lg_cmp_gt, lg_cmp_ge, lg_cmp_eq] at t_46_14
            try simp only [Int32.lt_iff_toInt_lt, Int32.le_iff_toInt_le, ← Int32.toInt_inj, Int64.lt_iff_toInt_lt, Int64.le_iff_toInt_le, ← Int64.toInt_inj, Int32.toInt_toInt64, Int32.reduceToInt, Int64.reduceToInt] at t_46_14
            refine lv_bipush (v := (-2)) hx hb dX8_lay_49 (by decide) ?_
            refine kIret (u := (fI, j0, j1, j2, j3)) hx hb hr rfl hlocks hS dX8_lay_51 ?_ (hP.sub [2, 0, 1] rfl) (hD.sub [2, 0, 1] (by decide) rfl)
            try dsimp only
            repeat' (with_reducible apply And.intro)
            all_goals first | with_reducible assumption | ((try simp only [jT_, jP_, jD_, jC_, jB_, jW_, Int32.reduceToInt, Int64.reduceToInt, true_or, or_true, true_and, and_true]) <;> omega)
        · have t_24_12 := c_24_12
          try simp only [kb_eq0, kb_ne0, lg_cmp_lt, lg_cmp_le, lg_cmp_gt, lg_cmp_ge, lg_cmp_eq] at t_24_12
          try simp only [Int32.lt_iff_toInt_lt, Int32.le_iff_toInt_le, ← Int32.toInt_inj, Int64.lt_iff_toInt_lt, Int64.le_iff_toInt_le, ← Int64.toInt_inj, Int32.toInt_toInt64, Int32.reduceToInt, Int64.reduceToInt] at t_24_12
          refine lv_lload_n hx hb dX8_lay_27 rfl (lv_at hl 2 rfl) ?_
          refine lv_ldc2 (v := (-3)) hx hb hown (hts (.constantLong RX8 113 (-3)) (List.mem_of_getElem? (i := 3) rfl)) dX8_lay_28 ?_
          refine W.lcmp hx hb dX8_lay_31 ?_
          refine lv_if_eq (tgt := 37) hx hb dX8_lay_32 (by decide) (fun c_32_19 => ?_) (fun c_32_19 => ?_)
          · have t_32_19 := c_32_19
            try simp only [kb_eq0, kb_ne0, lg_cmp_lt, lg_cmp_le, lg_cmp_gt, lg_cmp_ge, lg_cmp_eq] at t_32_19
            try simp only [Int32.lt_iff_toInt_lt, Int32.le_iff_toInt_le, ← Int32.toInt_inj, Int64.lt_iff_toInt_lt, Int64.le_iff_toInt_le, ← Int64.toInt_inj, Int32.toInt_toInt64, Int32.reduceToInt, Int64.reduceToInt] at t_32_19
            refine lv_aload_n hx hb dX8_lay_37 rfl (lv_at hl 0 rfl) ?_
            refine va_get (D := D) (ci := 8) (v := .ref mJ) (C := RX8) (T := TX8) (N := 31) hx hb hts iX8_lay_X8 hown hK hP 2 rfl rfl 15 (by decide) (hts (.fieldLink RX8 17 "TapeCalculatorModel" "items" "[I") (List.mem_of_getElem? (i := 4) rfl)) (fun _ h9 => h9) rfl dX8_lay_38 ?_
            refine lv_iload_n hx hb dX8_lay_41 rfl (lv_at hl 1 rfl) ?_
            refine va_iald hx hb hK hP 1 0 rfl rfl (vp_in_iff.mpr (by decide)) dX8_lay_42 ?_
            refine lv_topi (fun x_21 ex_21 => ?_)
            obtain rfl : j0 = x_21 := ex_21.symm
            refine lv_sipush (v := 300) hx hb dX8_lay_43 (by decide) ?_
            refine lv_icmp_ne (tgt := 52) hx hb dX8_lay_46 (by decide) (fun c_46_21 => ?_) (fun c_46_21 => ?_)
            · have t_46_21 := c_46_21
              try simp only [kb_eq0, kb_ne0, lg_cmp_lt, lg_cmp_le, lg_cmp_gt, lg_cmp_ge, lg_cmp_eq] at t_46_21
              try simp only [Int32.lt_iff_toInt_lt, Int32.le_iff_toInt_le, ← Int32.toInt_inj, Int64.lt_iff_toInt_lt, Int64.le_iff_toInt_le, ← Int64.toInt_inj, Int32.toInt_toInt64, Int32.reduceToInt, Int64.reduceToInt] at t_46_21
              refine lv_aload_n hx hb dX8_lay_52 rfl (lv_at hl 0 rfl) ?_
              refine va_get (D := D) (ci := 8) (v := .ref mI) (C := RX8) (T := TX8) (N := 31) hx hb hts iX8_lay_X8 hown hK hP 2 rfl rfl 14 (by decide) (hts (.fieldLink RX8 13 "TapeCalculatorModel" "item" "[J") (List.mem_of_getElem? (i := 5) rfl)) (fun _ h9 => h9) rfl dX8_lay_53 ?_
              refine lv_sipush (v := 300) hx hb dX8_lay_56 (by decide) ?_
              refine lv_iload_n hx hb dX8_lay_59 rfl (lv_at hl 1 rfl) ?_
              refine lv_imul hx hb dX8_lay_60 ?_
              refine lv_topi (fun x_23 ex_23 => ?_)
              obtain rfl : x_23 = 0 := ex_23.trans (by decide)
              refine lv_aload_n hx hb dX8_lay_61 rfl (lv_at hl 0 rfl) ?_
              refine va_get (D := D) (ci := 8) (v := .ref mJ) (C := RX8) (T := TX8) (N := 31) hx hb hts iX8_lay_X8 hown hK hP 2 rfl rfl 15 (by decide) (hts (.fieldLink RX8 17 "TapeCalculatorModel" "items" "[I") (List.mem_of_getElem? (i := 4) rfl)) (fun _ h9 => h9) rfl dX8_lay_62 ?_
              refine lv_iload_n hx hb dX8_lay_65 rfl (lv_at hl 1 rfl) ?_
              refine va_iald hx hb hK hP 1 0 rfl rfl (vp_in_iff.mpr (by decide)) dX8_lay_66 ?_
              refine lv_topi (fun x_24 ex_24 => ?_)
              obtain rfl : j0 = x_24 := ex_24.symm
              refine lv_iadd hx hb dX8_lay_67 ?_
              refine lv_lload_n hx hb dX8_lay_68 rfl (lv_at hl 2 rfl) ?_
              refine va_last hx hb hK hP hD hS 0 1 rfl rfl (vp_in_iff.mpr (by have hx9 := k_addg (a := 0) (b := j0) (by decide) (by omega); simp only [Int32.reduceToInt] at hx9; omega)) dX8_lay_69 (fun H locs hP hD hS => ?_)
              have hP : va_P D vwCl [(mI, .inl (cL, 1200, .inr (.inl (vp_updL fI (0 + j0).toNatClampNeg v)))), (mJ, .inl (cI, 4, .inl (k4i j0 j1 j2 j3))), (m0, .inr (8, [.ref mH, .int aM, .long aC, .int mM, .long mQ, .int oV, .int pL, .int lI, .int sW, .int dP, .int sT, .long aT, .int cH, .int iW, .ref mI, .ref mJ, .ref mS, .ref mD, .int iH, .int aE, .int mN, .long sZ, .ref mX, .int tS, .int tA, .int tW, .ref mA, .ref mB, .ref mW, .ref mL, .int lS]))] H := hP
              have hD : va_D A [(mI, .inl (cL, 1200, .inr (.inl (vp_updL fI (0 + j0).toNatClampNeg v)))), (mJ, .inl (cI, 4, .inl (k4i j0 j1 j2 j3))), (m0, .inr (8, [.ref mH, .int aM, .long aC, .int mM, .long mQ, .int oV, .int pL, .int lI, .int sW, .int dP, .int sT, .long aT, .int cH, .int iW, .ref mI, .ref mJ, .ref mS, .ref mD, .int iH, .int aE, .int mN, .long sZ, .ref mX, .int tS, .int tA, .int tW, .ref mA, .ref mB, .ref mW, .ref mL, .int lS]))] := hD
              refine lv_aload_n hx hb dX8_lay_70 rfl (lv_at hl 0 rfl) ?_
              refine va_get (D := D) (ci := 8) (v := .ref mJ) (C := RX8) (T := TX8) (N := 31) hx hb hts iX8_lay_X8 hown hK hP 2 rfl rfl 15 (by decide) (hts (.fieldLink RX8 17 "TapeCalculatorModel" "items" "[I") (List.mem_of_getElem? (i := 4) rfl)) (fun _ h9 => h9) rfl dX8_lay_71 ?_
              refine lv_iload_n hx hb dX8_lay_74 rfl (lv_at hl 1 rfl) ?_
              refine lv_dup2_11 hx hb dX8_lay_75 rfl rfl ?_
              refine va_iald hx hb hK hP 1 0 rfl rfl (vp_in_iff.mpr (by decide)) dX8_lay_76 ?_
              refine lv_topi (fun x_25 ex_25 => ?_)
              obtain rfl : j0 = x_25 := ex_25.symm
              refine lv_iconst (v := 1) hx hb dX8_lay_77 (by decide) ?_
              refine lv_iadd hx hb dX8_lay_78 ?_
              refine va_iast hx hb hK hP hD hS 1 0 rfl rfl (vp_in_iff.mpr (by decide)) dX8_lay_79 (fun H locs hP hD hS => ?_)
              rw [k4i_0] at hP hD
              have hP : va_P D vwCl [(mI, .inl (cL, 1200, .inr (.inl (vp_updL fI (0 + j0).toNatClampNeg v)))), (mJ, .inl (cI, 4, .inl (k4i (j0 + 1) j1 j2 j3))), (m0, .inr (8, [.ref mH, .int aM, .long aC, .int mM, .long mQ, .int oV, .int pL, .int lI, .int sW, .int dP, .int sT, .long aT, .int cH, .int iW, .ref mI, .ref mJ, .ref mS, .ref mD, .int iH, .int aE, .int mN, .long sZ, .ref mX, .int tS, .int tA, .int tW, .ref mA, .ref mB, .ref mW, .ref mL, .int lS]))] H := hP
              have hD : va_D A [(mI, .inl (cL, 1200, .inr (.inl (vp_updL fI (0 + j0).toNatClampNeg v)))), (mJ, .inl (cI, 4, .inl (k4i (j0 + 1) j1 j2 j3))), (m0, .inr (8, [.ref mH, .int aM, .long aC, .int mM, .long mQ, .int oV, .int pL, .int lI, .int sW, .int dP, .int sT, .long aT, .int cH, .int iW, .ref mI, .ref mJ, .ref mS, .ref mD, .int iH, .int aE, .int mN, .long sZ, .ref mX, .int tS, .int tA, .int tW, .ref mA, .ref mB, .ref mW, .ref mL, .int lS]))] := hD
              refine lv_aload_n hx hb dX8_lay_80 rfl (lv_at hl 0 rfl) ?_
              refine va_get (D := D) (ci := 8) (v := .ref mJ) (C := RX8) (T := TX8) (N := 31) hx hb hts iX8_lay_X8 hown hK hP 2 rfl rfl 15 (by decide) (hts (.fieldLink RX8 17 "TapeCalculatorModel" "items" "[I") (List.mem_of_getElem? (i := 4) rfl)) (fun _ h9 => h9) rfl dX8_lay_81 ?_
              refine lv_iload_n hx hb dX8_lay_84 rfl (lv_at hl 1 rfl) ?_
              refine va_iald hx hb hK hP 1 0 rfl rfl (vp_in_iff.mpr (by decide)) dX8_lay_85 ?_
              refine lv_topi (fun x_26 ex_26 => ?_)
              obtain rfl : (j0 + 1) = x_26 := ex_26.symm
              refine kIret (u := ((vp_updL fI (0 + j0).toNatClampNeg v), (j0 + 1), j1, j2, j3)) hx hb hr rfl hlocks hS dX8_lay_86 ?_ (hP.sub [2, 0, 1] rfl) (hD.sub [2, 0, 1] (by decide) rfl)
              try dsimp only
              repeat' (with_reducible apply And.intro)
              all_goals first | with_reducible assumption | ((try simp only [jT_, jP_, jD_, jC_, jB_, jW_, Int32.reduceToInt, Int64.reduceToInt, true_or, or_true, true_and, and_true]) <;> omega)
            · have t_46_21 := c_46_21
              try simp only [kb_eq0, kb_ne0, lg_cmp_lt, lg_cmp_le, lg_cmp_gt, lg_cmp_ge, lg_cmp_eq] at t_46_21
              try simp only [Int32.lt_iff_toInt_lt, Int32.le_iff_toInt_le, ← Int32.toInt_inj, Int64.lt_iff_toInt_lt, Int64.le_iff_toInt_le, ← Int64.toInt_inj, Int32.toInt_toInt64, Int32.reduceToInt, Int64.reduceToInt] at t_46_21
              refine lv_bipush (v := (-2)) hx hb dX8_lay_49 (by decide) ?_
              refine kIret (u := (fI, j0, j1, j2, j3)) hx hb hr rfl hlocks hS dX8_lay_51 ?_ (hP.sub [2, 0, 1] rfl) (hD.sub [2, 0, 1] (by decide) rfl)
              try dsimp only
              repeat' (with_reducible apply And.intro)
              all_goals first | with_reducible assumption | ((try simp only [jT_, jP_, jD_, jC_, jB_, jW_, Int32.reduceToInt, Int64.reduceToInt, true_or, or_true, true_and, and_true]) <;> omega)
          · have t_32_19 := c_32_19
            try simp only [kb_eq0, kb_ne0, lg_cmp_lt, lg_cmp_le, lg_cmp_gt, lg_cmp_ge, lg_cmp_eq] at t_32_19
            try simp only [Int32.lt_iff_toInt_lt, Int32.le_iff_toInt_le, ← Int32.toInt_inj, Int64.lt_iff_toInt_lt, Int64.le_iff_toInt_le, ← Int64.toInt_inj, Int32.toInt_toInt64, Int32.reduceToInt, Int64.reduceToInt] at t_32_19
            refine lv_iconst (v := (-1)) hx hb dX8_lay_35 (by decide) ?_
            refine kIret (u := (fI, j0, j1, j2, j3)) hx hb hr rfl hlocks hS dX8_lay_36 ?_ (hP.sub [2, 0, 1] rfl) (hD.sub [2, 0, 1] (by decide) rfl)
            try dsimp only
            repeat' (with_reducible apply And.intro)
            all_goals first | with_reducible assumption | ((try simp only [jT_, jP_, jD_, jC_, jB_, jW_, Int32.reduceToInt, Int64.reduceToInt, true_or, or_true, true_and, and_true]) <;> omega)
  · have hu1 : 0 ≤ s1.toInt ∧ s1.toInt ≤ j1.toInt ∧ j1.toInt ≤ 300 := ht1
    have hs1 := k_addg (a := j1) (b := 1) (by omega) (by decide)
    simp only [Int32.reduceToInt] at hs1
    refine lv_aload_n hx hb dX8_lay_0 rfl (lv_at hl 0 rfl) ?_
    refine lv_iload_n hx hb dX8_lay_1 rfl (lv_at hl 1 rfl) ?_
    refine kCallI (wr := [(mI, .inl (cL, 1200, .inr (.inl fI))), (mJ, .inl (cI, 4, .inl (k4i j0 j1 j2 j3)))]) (va_runV (As := [.int 1]) (rest := []) ⟨hx, hb, hml, hown, hts⟩ (q_isTape l D cI cL cB cZ cT _ m0 mH mI mJ mS mD mX mA mB mW mL aM aC mM mQ oV pL lI sW dP sT aT cH iW iH aE mN sZ tS tA tW lS 1) (cwV 1 hts gX8_lay_X8_isTape rfl rfl rfl (by decide +kernel) ⟨Nat.le_of_ble_eq_true rfl, Nat.le_of_ble_eq_true rfl⟩) (kPreV hG hP hD [0] rfl (by decide) 0 8 rfl rfl rfl) rfl rfl hl.1 rfl (lv_room (Nat.le_of_ble_eq_true rfl)) dX8_lay_2 ⟨Nat.le_of_ble_eq_true rfl, Nat.le_of_ble_eq_true rfl⟩) hA hP hD hS [0] [1, 2] rfl rfl (by decide) (by decide) (fun r_27 u_r_27 H locs wr_27 hP hD hS => ?_)
    have hP : va_P D vwCl [(mI, .inl (cL, 1200, .inr (.inl fI))), (mJ, .inl (cI, 4, .inl (k4i j0 j1 j2 j3))), (m0, .inr (8, [.ref mH, .int aM, .long aC, .int mM, .long mQ, .int oV, .int pL, .int lI, .int sW, .int dP, .int sT, .long aT, .int cH, .int iW, .ref mI, .ref mJ, .ref mS, .ref mD, .int iH, .int aE, .int mN, .long sZ, .ref mX, .int tS, .int tA, .int tW, .ref mA, .ref mB, .ref mW, .ref mL, .int lS]))] H := hP
    have hD : va_D A [(mI, .inl (cL, 1200, .inr (.inl fI))), (mJ, .inl (cI, 4, .inl (k4i j0 j1 j2 j3))), (m0, .inr (8, [.ref mH, .int aM, .long aC, .int mM, .long mQ, .int oV, .int pL, .int lI, .int sW, .int dP, .int sT, .long aT, .int cH, .int iW, .ref mI, .ref mJ, .ref mS, .ref mD, .int iH, .int aE, .int mN, .long sZ, .ref mX, .int tS, .int tA, .int tW, .ref mA, .ref mB, .ref mW, .ref mL, .int lS]))] := hD
    try dsimp only at wr_27
    subst wr_27
    refine lv_if_eq (tgt := 35) hx hb dX8_lay_5 (by decide) (fun c_5_27 => ?_) (fun c_5_27 => ?_)
    · have t_5_27 := c_5_27
      try simp only [kb_eq0, kb_ne0, lg_cmp_lt, lg_cmp_le, lg_cmp_gt, lg_cmp_ge, lg_cmp_eq] at t_5_27
      try simp only [Int32.lt_iff_toInt_lt, Int32.le_iff_toInt_le, ← Int32.toInt_inj, Int64.lt_iff_toInt_lt, Int64.le_iff_toInt_le, ← Int64.toInt_inj, Int32.toInt_toInt64, Int32.reduceToInt, Int64.reduceToInt] at t_5_27
      omega
    · have t_5_27 := c_5_27
      try simp only [kb_eq0, kb_ne0, lg_cmp_lt, lg_cmp_le, lg_cmp_gt, lg_cmp_ge, lg_cmp_eq] at t_5_27
      try simp only [Int32.lt_iff_toInt_lt, Int32.le_iff_toInt_le, ← Int32.toInt_inj, Int64.lt_iff_toInt_lt, Int64.le_iff_toInt_le, ← Int64.toInt_inj, Int32.toInt_toInt64, Int32.reduceToInt, Int64.reduceToInt] at t_5_27
      refine lv_lload_n hx hb dX8_lay_8 rfl (lv_at hl 2 rfl) ?_
      refine lv_lconst (v := 0) hx hb dX8_lay_9 (by decide) ?_
      refine lv_ldc2 (v := 68719476735) hx hb hown (hts (.constantLong RX8 109 (68719476735)) (List.mem_of_getElem? (i := 1) rfl)) dX8_lay_10 ?_
      refine kCallI (wr := [(mI, .inl (cL, 1200, .inr (.inl fI))), (mJ, .inl (cI, 4, .inl (k4i j0 j1 j2 j3))), (m0, .inr (8, [.ref mH, .int aM, .long aC, .int mM, .long mQ, .int oV, .int pL, .int lI, .int sW, .int dP, .int sT, .long aT, .int cH, .int iW, .ref mI, .ref mJ, .ref mS, .ref mD, .int iH, .int aE, .int mN, .long sZ, .ref mX, .int tS, .int tA, .int tW, .ref mA, .ref mB, .ref mW, .ref mL, .int lS]))]) (va_runS (As := [.long v, .long 0, .long 68719476735]) (rest := []) ⟨hx, hb, hml, hown, hts⟩ (q_in l D cI cL cB cZ cT _ v 0 68719476735) (va_cwS 3 hts gX8_lay_X8_in rfl rfl rfl (by decide +kernel) ⟨Nat.le_of_ble_eq_true rfl, Nat.le_of_ble_eq_true rfl⟩) (kPreS hG hP hD [] rfl (by decide)) rfl rfl hl.1 rfl (lv_room (Nat.le_of_ble_eq_true rfl)) dX8_lay_13 ⟨Nat.le_of_ble_eq_true rfl, Nat.le_of_ble_eq_true rfl⟩) hA hP hD hS [] [0, 1, 2] rfl rfl (by decide) (by decide) (fun r_29 u_r_29 H locs wr_29 hP hD hS => ?_)
      have hP : va_P D vwCl [(mI, .inl (cL, 1200, .inr (.inl fI))), (mJ, .inl (cI, 4, .inl (k4i j0 j1 j2 j3))), (m0, .inr (8, [.ref mH, .int aM, .long aC, .int mM, .long mQ, .int oV, .int pL, .int lI, .int sW, .int dP, .int sT, .long aT, .int cH, .int iW, .ref mI, .ref mJ, .ref mS, .ref mD, .int iH, .int aE, .int mN, .long sZ, .ref mX, .int tS, .int tA, .int tW, .ref mA, .ref mB, .ref mW, .ref mL, .int lS]))] H := hP
      have hD : va_D A [(mI, .inl (cL, 1200, .inr (.inl fI))), (mJ, .inl (cI, 4, .inl (k4i j0 j1 j2 j3))), (m0, .inr (8, [.ref mH, .int aM, .long aC, .int mM, .long mQ, .int oV, .int pL, .int lI, .int sW, .int dP, .int sT, .long aT, .int cH, .int iW, .ref mI, .ref mJ, .ref mS, .ref mD, .int iH, .int aE, .int mN, .long sZ, .ref mX, .int tS, .int tA, .int tW, .ref mA, .ref mB, .ref mW, .ref mL, .int lS]))] := hD
      try dsimp only at wr_29
      subst wr_29
      refine lv_if_ne (tgt := 37) hx hb dX8_lay_16 (by decide) (fun c_16_29 => ?_) (fun c_16_29 => ?_)
      · have t_16_29 := c_16_29
        try simp only [kb_eq0, kb_ne0, lg_cmp_lt, lg_cmp_le, lg_cmp_gt, lg_cmp_ge, lg_cmp_eq] at t_16_29
        try simp only [Int32.lt_iff_toInt_lt, Int32.le_iff_toInt_le, ← Int32.toInt_inj, Int64.lt_iff_toInt_lt, Int64.le_iff_toInt_le, ← Int64.toInt_inj, Int32.toInt_toInt64, Int32.reduceToInt, Int64.reduceToInt] at t_16_29
        refine lv_aload_n hx hb dX8_lay_37 rfl (lv_at hl 0 rfl) ?_
        refine va_get (D := D) (ci := 8) (v := .ref mJ) (C := RX8) (T := TX8) (N := 31) hx hb hts iX8_lay_X8 hown hK hP 2 rfl rfl 15 (by decide) (hts (.fieldLink RX8 17 "TapeCalculatorModel" "items" "[I") (List.mem_of_getElem? (i := 4) rfl)) (fun _ h9 => h9) rfl dX8_lay_38 ?_
        refine lv_iload_n hx hb dX8_lay_41 rfl (lv_at hl 1 rfl) ?_
        refine va_iald hx hb hK hP 1 0 rfl rfl (vp_in_iff.mpr (by decide)) dX8_lay_42 ?_
        refine lv_topi (fun x_31 ex_31 => ?_)
        obtain rfl : j1 = x_31 := ex_31.symm
        refine lv_sipush (v := 300) hx hb dX8_lay_43 (by decide) ?_
        refine lv_icmp_ne (tgt := 52) hx hb dX8_lay_46 (by decide) (fun c_46_31 => ?_) (fun c_46_31 => ?_)
        · have t_46_31 := c_46_31
          try simp only [kb_eq0, kb_ne0, lg_cmp_lt, lg_cmp_le, lg_cmp_gt, lg_cmp_ge, lg_cmp_eq] at t_46_31
          try simp only [Int32.lt_iff_toInt_lt, Int32.le_iff_toInt_le, ← Int32.toInt_inj, Int64.lt_iff_toInt_lt, Int64.le_iff_toInt_le, ← Int64.toInt_inj, Int32.toInt_toInt64, Int32.reduceToInt, Int64.reduceToInt] at t_46_31
          refine lv_aload_n hx hb dX8_lay_52 rfl (lv_at hl 0 rfl) ?_
          refine va_get (D := D) (ci := 8) (v := .ref mI) (C := RX8) (T := TX8) (N := 31) hx hb hts iX8_lay_X8 hown hK hP 2 rfl rfl 14 (by decide) (hts (.fieldLink RX8 13 "TapeCalculatorModel" "item" "[J") (List.mem_of_getElem? (i := 5) rfl)) (fun _ h9 => h9) rfl dX8_lay_53 ?_
          refine lv_sipush (v := 300) hx hb dX8_lay_56 (by decide) ?_
          refine lv_iload_n hx hb dX8_lay_59 rfl (lv_at hl 1 rfl) ?_
          refine lv_imul hx hb dX8_lay_60 ?_
          refine lv_topi (fun x_33 ex_33 => ?_)
          obtain rfl : x_33 = 300 := ex_33.trans (by decide)
          refine lv_aload_n hx hb dX8_lay_61 rfl (lv_at hl 0 rfl) ?_
          refine va_get (D := D) (ci := 8) (v := .ref mJ) (C := RX8) (T := TX8) (N := 31) hx hb hts iX8_lay_X8 hown hK hP 2 rfl rfl 15 (by decide) (hts (.fieldLink RX8 17 "TapeCalculatorModel" "items" "[I") (List.mem_of_getElem? (i := 4) rfl)) (fun _ h9 => h9) rfl dX8_lay_62 ?_
          refine lv_iload_n hx hb dX8_lay_65 rfl (lv_at hl 1 rfl) ?_
          refine va_iald hx hb hK hP 1 0 rfl rfl (vp_in_iff.mpr (by decide)) dX8_lay_66 ?_
          refine lv_topi (fun x_34 ex_34 => ?_)
          obtain rfl : j1 = x_34 := ex_34.symm
          refine lv_iadd hx hb dX8_lay_67 ?_
          refine lv_lload_n hx hb dX8_lay_68 rfl (lv_at hl 2 rfl) ?_
          refine va_last hx hb hK hP hD hS 0 1 rfl rfl (vp_in_iff.mpr (by have hx9 := k_addg (a := 300) (b := j1) (by decide) (by omega); simp only [Int32.reduceToInt] at hx9; omega)) dX8_lay_69 (fun H locs hP hD hS => ?_)
          have hP : va_P D vwCl [(mI, .inl (cL, 1200, .inr (.inl (vp_updL fI (300 + j1).toNatClampNeg v)))), (mJ, .inl (cI, 4, .inl (k4i j0 j1 j2 j3))), (m0, .inr (8, [.ref mH, .int aM, .long aC, .int mM, .long mQ, .int oV, .int pL, .int lI, .int sW, .int dP, .int sT, .long aT, .int cH, .int iW, .ref mI, .ref mJ, .ref mS, .ref mD, .int iH, .int aE, .int mN, .long sZ, .ref mX, .int tS, .int tA, .int tW, .ref mA, .ref mB, .ref mW, .ref mL, .int lS]))] H := hP
          have hD : va_D A [(mI, .inl (cL, 1200, .inr (.inl (vp_updL fI (300 + j1).toNatClampNeg v)))), (mJ, .inl (cI, 4, .inl (k4i j0 j1 j2 j3))), (m0, .inr (8, [.ref mH, .int aM, .long aC, .int mM, .long mQ, .int oV, .int pL, .int lI, .int sW, .int dP, .int sT, .long aT, .int cH, .int iW, .ref mI, .ref mJ, .ref mS, .ref mD, .int iH, .int aE, .int mN, .long sZ, .ref mX, .int tS, .int tA, .int tW, .ref mA, .ref mB, .ref mW, .ref mL, .int lS]))] := hD
          refine lv_aload_n hx hb dX8_lay_70 rfl (lv_at hl 0 rfl) ?_
          refine va_get (D := D) (ci := 8) (v := .ref mJ) (C := RX8) (T := TX8) (N := 31) hx hb hts iX8_lay_X8 hown hK hP 2 rfl rfl 15 (by decide) (hts (.fieldLink RX8 17 "TapeCalculatorModel" "items" "[I") (List.mem_of_getElem? (i := 4) rfl)) (fun _ h9 => h9) rfl dX8_lay_71 ?_
          refine lv_iload_n hx hb dX8_lay_74 rfl (lv_at hl 1 rfl) ?_
          refine lv_dup2_11 hx hb dX8_lay_75 rfl rfl ?_
          refine va_iald hx hb hK hP 1 0 rfl rfl (vp_in_iff.mpr (by decide)) dX8_lay_76 ?_
          refine lv_topi (fun x_35 ex_35 => ?_)
          obtain rfl : j1 = x_35 := ex_35.symm
          refine lv_iconst (v := 1) hx hb dX8_lay_77 (by decide) ?_
          refine lv_iadd hx hb dX8_lay_78 ?_
          refine va_iast hx hb hK hP hD hS 1 0 rfl rfl (vp_in_iff.mpr (by decide)) dX8_lay_79 (fun H locs hP hD hS => ?_)
          rw [k4i_1] at hP hD
          have hP : va_P D vwCl [(mI, .inl (cL, 1200, .inr (.inl (vp_updL fI (300 + j1).toNatClampNeg v)))), (mJ, .inl (cI, 4, .inl (k4i j0 (j1 + 1) j2 j3))), (m0, .inr (8, [.ref mH, .int aM, .long aC, .int mM, .long mQ, .int oV, .int pL, .int lI, .int sW, .int dP, .int sT, .long aT, .int cH, .int iW, .ref mI, .ref mJ, .ref mS, .ref mD, .int iH, .int aE, .int mN, .long sZ, .ref mX, .int tS, .int tA, .int tW, .ref mA, .ref mB, .ref mW, .ref mL, .int lS]))] H := hP
          have hD : va_D A [(mI, .inl (cL, 1200, .inr (.inl (vp_updL fI (300 + j1).toNatClampNeg v)))), (mJ, .inl (cI, 4, .inl (k4i j0 (j1 + 1) j2 j3))), (m0, .inr (8, [.ref mH, .int aM, .long aC, .int mM, .long mQ, .int oV, .int pL, .int lI, .int sW, .int dP, .int sT, .long aT, .int cH, .int iW, .ref mI, .ref mJ, .ref mS, .ref mD, .int iH, .int aE, .int mN, .long sZ, .ref mX, .int tS, .int tA, .int tW, .ref mA, .ref mB, .ref mW, .ref mL, .int lS]))] := hD
          refine lv_aload_n hx hb dX8_lay_80 rfl (lv_at hl 0 rfl) ?_
          refine va_get (D := D) (ci := 8) (v := .ref mJ) (C := RX8) (T := TX8) (N := 31) hx hb hts iX8_lay_X8 hown hK hP 2 rfl rfl 15 (by decide) (hts (.fieldLink RX8 17 "TapeCalculatorModel" "items" "[I") (List.mem_of_getElem? (i := 4) rfl)) (fun _ h9 => h9) rfl dX8_lay_81 ?_
          refine lv_iload_n hx hb dX8_lay_84 rfl (lv_at hl 1 rfl) ?_
          refine va_iald hx hb hK hP 1 0 rfl rfl (vp_in_iff.mpr (by decide)) dX8_lay_85 ?_
          refine lv_topi (fun x_36 ex_36 => ?_)
          obtain rfl : (j1 + 1) = x_36 := ex_36.symm
          refine kIret (u := ((vp_updL fI (300 + j1).toNatClampNeg v), j0, (j1 + 1), j2, j3)) hx hb hr rfl hlocks hS dX8_lay_86 ?_ (hP.sub [2, 0, 1] rfl) (hD.sub [2, 0, 1] (by decide) rfl)
          try dsimp only
          repeat' (with_reducible apply And.intro)
          all_goals first | with_reducible assumption | ((try simp only [jT_, jP_, jD_, jC_, jB_, jW_, Int32.reduceToInt, Int64.reduceToInt, true_or, or_true, true_and, and_true]) <;> omega)
        · have t_46_31 := c_46_31
          try simp only [kb_eq0, kb_ne0, lg_cmp_lt, lg_cmp_le, lg_cmp_gt, lg_cmp_ge, lg_cmp_eq] at t_46_31
          try simp only [Int32.lt_iff_toInt_lt, Int32.le_iff_toInt_le, ← Int32.toInt_inj, Int64.lt_iff_toInt_lt, Int64.le_iff_toInt_le, ← Int64.toInt_inj, Int32.toInt_toInt64, Int32.reduceToInt, Int64.reduceToInt] at t_46_31
          refine lv_bipush (v := (-2)) hx hb dX8_lay_49 (by decide) ?_
          refine kIret (u := (fI, j0, j1, j2, j3)) hx hb hr rfl hlocks hS dX8_lay_51 ?_ (hP.sub [2, 0, 1] rfl) (hD.sub [2, 0, 1] (by decide) rfl)
          try dsimp only
          repeat' (with_reducible apply And.intro)
          all_goals first | with_reducible assumption | ((try simp only [jT_, jP_, jD_, jC_, jB_, jW_, Int32.reduceToInt, Int64.reduceToInt, true_or, or_true, true_and, and_true]) <;> omega)
      · have t_16_29 := c_16_29
        try simp only [kb_eq0, kb_ne0, lg_cmp_lt, lg_cmp_le, lg_cmp_gt, lg_cmp_ge, lg_cmp_eq] at t_16_29
        try simp only [Int32.lt_iff_toInt_lt, Int32.le_iff_toInt_le, ← Int32.toInt_inj, Int64.lt_iff_toInt_lt, Int64.le_iff_toInt_le, ← Int64.toInt_inj, Int32.toInt_toInt64, Int32.reduceToInt, Int64.reduceToInt] at t_16_29
        refine lv_lload_n hx hb dX8_lay_19 rfl (lv_at hl 2 rfl) ?_
        refine lv_ldc2 (v := (-2)) hx hb hown (hts (.constantLong RX8 111 (-2)) (List.mem_of_getElem? (i := 2) rfl)) dX8_lay_20 ?_
        refine W.lcmp hx hb dX8_lay_23 ?_
        refine lv_if_eq (tgt := 37) hx hb dX8_lay_24 (by decide) (fun c_24_36 => ?_) (fun c_24_36 => ?_)
        · have t_24_36 := c_24_36
          try simp only [kb_eq0, kb_ne0, lg_cmp_lt, lg_cmp_le, lg_cmp_gt, lg_cmp_ge, lg_cmp_eq] at t_24_36
          try simp only [Int32.lt_iff_toInt_lt, Int32.le_iff_toInt_le, ← Int32.toInt_inj, Int64.lt_iff_toInt_lt, Int64.le_iff_toInt_le, ← Int64.toInt_inj, Int32.toInt_toInt64, Int32.reduceToInt, Int64.reduceToInt] at t_24_36
          refine lv_aload_n hx hb dX8_lay_37 rfl (lv_at hl 0 rfl) ?_
          refine va_get (D := D) (ci := 8) (v := .ref mJ) (C := RX8) (T := TX8) (N := 31) hx hb hts iX8_lay_X8 hown hK hP 2 rfl rfl 15 (by decide) (hts (.fieldLink RX8 17 "TapeCalculatorModel" "items" "[I") (List.mem_of_getElem? (i := 4) rfl)) (fun _ h9 => h9) rfl dX8_lay_38 ?_
          refine lv_iload_n hx hb dX8_lay_41 rfl (lv_at hl 1 rfl) ?_
          refine va_iald hx hb hK hP 1 0 rfl rfl (vp_in_iff.mpr (by decide)) dX8_lay_42 ?_
          refine lv_topi (fun x_38 ex_38 => ?_)
          obtain rfl : j1 = x_38 := ex_38.symm
          refine lv_sipush (v := 300) hx hb dX8_lay_43 (by decide) ?_
          refine lv_icmp_ne (tgt := 52) hx hb dX8_lay_46 (by decide) (fun c_46_38 => ?_) (fun c_46_38 => ?_)
          · have t_46_38 := c_46_38
            try simp only [kb_eq0, kb_ne0, lg_cmp_lt, lg_cmp_le, lg_cmp_gt, lg_cmp_ge, lg_cmp_eq] at t_46_38
            try simp only [Int32.lt_iff_toInt_lt, Int32.le_iff_toInt_le, ← Int32.toInt_inj, Int64.lt_iff_toInt_lt, Int64.le_iff_toInt_le, ← Int64.toInt_inj, Int32.toInt_toInt64, Int32.reduceToInt, Int64.reduceToInt] at t_46_38
            refine lv_aload_n hx hb dX8_lay_52 rfl (lv_at hl 0 rfl) ?_
            refine va_get (D := D) (ci := 8) (v := .ref mI) (C := RX8) (T := TX8) (N := 31) hx hb hts iX8_lay_X8 hown hK hP 2 rfl rfl 14 (by decide) (hts (.fieldLink RX8 13 "TapeCalculatorModel" "item" "[J") (List.mem_of_getElem? (i := 5) rfl)) (fun _ h9 => h9) rfl dX8_lay_53 ?_
            refine lv_sipush (v := 300) hx hb dX8_lay_56 (by decide) ?_
            refine lv_iload_n hx hb dX8_lay_59 rfl (lv_at hl 1 rfl) ?_
            refine lv_imul hx hb dX8_lay_60 ?_
            refine lv_topi (fun x_40 ex_40 => ?_)
            obtain rfl : x_40 = 300 := ex_40.trans (by decide)
            refine lv_aload_n hx hb dX8_lay_61 rfl (lv_at hl 0 rfl) ?_
            refine va_get (D := D) (ci := 8) (v := .ref mJ) (C := RX8) (T := TX8) (N := 31) hx hb hts iX8_lay_X8 hown hK hP 2 rfl rfl 15 (by decide) (hts (.fieldLink RX8 17 "TapeCalculatorModel" "items" "[I") (List.mem_of_getElem? (i := 4) rfl)) (fun _ h9 => h9) rfl dX8_lay_62 ?_
            refine lv_iload_n hx hb dX8_lay_65 rfl (lv_at hl 1 rfl) ?_
            refine va_iald hx hb hK hP 1 0 rfl rfl (vp_in_iff.mpr (by decide)) dX8_lay_66 ?_
            refine lv_topi (fun x_41 ex_41 => ?_)
            obtain rfl : j1 = x_41 := ex_41.symm
            refine lv_iadd hx hb dX8_lay_67 ?_
            refine lv_lload_n hx hb dX8_lay_68 rfl (lv_at hl 2 rfl) ?_
            refine va_last hx hb hK hP hD hS 0 1 rfl rfl (vp_in_iff.mpr (by have hx9 := k_addg (a := 300) (b := j1) (by decide) (by omega); simp only [Int32.reduceToInt] at hx9; omega)) dX8_lay_69 (fun H locs hP hD hS => ?_)
            have hP : va_P D vwCl [(mI, .inl (cL, 1200, .inr (.inl (vp_updL fI (300 + j1).toNatClampNeg v)))), (mJ, .inl (cI, 4, .inl (k4i j0 j1 j2 j3))), (m0, .inr (8, [.ref mH, .int aM, .long aC, .int mM, .long mQ, .int oV, .int pL, .int lI, .int sW, .int dP, .int sT, .long aT, .int cH, .int iW, .ref mI, .ref mJ, .ref mS, .ref mD, .int iH, .int aE, .int mN, .long sZ, .ref mX, .int tS, .int tA, .int tW, .ref mA, .ref mB, .ref mW, .ref mL, .int lS]))] H := hP
            have hD : va_D A [(mI, .inl (cL, 1200, .inr (.inl (vp_updL fI (300 + j1).toNatClampNeg v)))), (mJ, .inl (cI, 4, .inl (k4i j0 j1 j2 j3))), (m0, .inr (8, [.ref mH, .int aM, .long aC, .int mM, .long mQ, .int oV, .int pL, .int lI, .int sW, .int dP, .int sT, .long aT, .int cH, .int iW, .ref mI, .ref mJ, .ref mS, .ref mD, .int iH, .int aE, .int mN, .long sZ, .ref mX, .int tS, .int tA, .int tW, .ref mA, .ref mB, .ref mW, .ref mL, .int lS]))] := hD
            refine lv_aload_n hx hb dX8_lay_70 rfl (lv_at hl 0 rfl) ?_
            refine va_get (D := D) (ci := 8) (v := .ref mJ) (C := RX8) (T := TX8) (N := 31) hx hb hts iX8_lay_X8 hown hK hP 2 rfl rfl 15 (by decide) (hts (.fieldLink RX8 17 "TapeCalculatorModel" "items" "[I") (List.mem_of_getElem? (i := 4) rfl)) (fun _ h9 => h9) rfl dX8_lay_71 ?_
            refine lv_iload_n hx hb dX8_lay_74 rfl (lv_at hl 1 rfl) ?_
            refine lv_dup2_11 hx hb dX8_lay_75 rfl rfl ?_
            refine va_iald hx hb hK hP 1 0 rfl rfl (vp_in_iff.mpr (by decide)) dX8_lay_76 ?_
            refine lv_topi (fun x_42 ex_42 => ?_)
            obtain rfl : j1 = x_42 := ex_42.symm
            refine lv_iconst (v := 1) hx hb dX8_lay_77 (by decide) ?_
            refine lv_iadd hx hb dX8_lay_78 ?_
            refine va_iast hx hb hK hP hD hS 1 0 rfl rfl (vp_in_iff.mpr (by decide)) dX8_lay_79 (fun H locs hP hD hS => ?_)
            rw [k4i_1] at hP hD
            have hP : va_P D vwCl [(mI, .inl (cL, 1200, .inr (.inl (vp_updL fI (300 + j1).toNatClampNeg v)))), (mJ, .inl (cI, 4, .inl (k4i j0 (j1 + 1) j2 j3))), (m0, .inr (8, [.ref mH, .int aM, .long aC, .int mM, .long mQ, .int oV, .int pL, .int lI, .int sW, .int dP, .int sT, .long aT, .int cH, .int iW, .ref mI, .ref mJ, .ref mS, .ref mD, .int iH, .int aE, .int mN, .long sZ, .ref mX, .int tS, .int tA, .int tW, .ref mA, .ref mB, .ref mW, .ref mL, .int lS]))] H := hP
            have hD : va_D A [(mI, .inl (cL, 1200, .inr (.inl (vp_updL fI (300 + j1).toNatClampNeg v)))), (mJ, .inl (cI, 4, .inl (k4i j0 (j1 + 1) j2 j3))), (m0, .inr (8, [.ref mH, .int aM, .long aC, .int mM, .long mQ, .int oV, .int pL, .int lI, .int sW, .int dP, .int sT, .long aT, .int cH, .int iW, .ref mI, .ref mJ, .ref mS, .ref mD, .int iH, .int aE, .int mN, .long sZ, .ref mX, .int tS, .int tA, .int tW, .ref mA, .ref mB, .ref mW, .ref mL, .int lS]))] := hD
            refine lv_aload_n hx hb dX8_lay_80 rfl (lv_at hl 0 rfl) ?_
            refine va_get (D := D) (ci := 8) (v := .ref mJ) (C := RX8) (T := TX8) (N := 31) hx hb hts iX8_lay_X8 hown hK hP 2 rfl rfl 15 (by decide) (hts (.fieldLink RX8 17 "TapeCalculatorModel" "items" "[I") (List.mem_of_getElem? (i := 4) rfl)) (fun _ h9 => h9) rfl dX8_lay_81 ?_
            refine lv_iload_n hx hb dX8_lay_84 rfl (lv_at hl 1 rfl) ?_
            refine va_iald hx hb hK hP 1 0 rfl rfl (vp_in_iff.mpr (by decide)) dX8_lay_85 ?_
            refine lv_topi (fun x_43 ex_43 => ?_)
            obtain rfl : (j1 + 1) = x_43 := ex_43.symm
            refine kIret (u := ((vp_updL fI (300 + j1).toNatClampNeg v), j0, (j1 + 1), j2, j3)) hx hb hr rfl hlocks hS dX8_lay_86 ?_ (hP.sub [2, 0, 1] rfl) (hD.sub [2, 0, 1] (by decide) rfl)
            try dsimp only
            repeat' (with_reducible apply And.intro)
            all_goals first | with_reducible assumption | ((try simp only [jT_, jP_, jD_, jC_, jB_, jW_, Int32.reduceToInt, Int64.reduceToInt, true_or, or_true, true_and, and_true]) <;> omega)
          · have t_46_38 := c_46_38
            try simp only [kb_eq0, kb_ne0, lg_cmp_lt, lg_cmp_le, lg_cmp_gt, lg_cmp_ge, lg_cmp_eq] at t_46_38
            try simp only [Int32.lt_iff_toInt_lt, Int32.le_iff_toInt_le, ← Int32.toInt_inj, Int64.lt_iff_toInt_lt, Int64.le_iff_toInt_le, ← Int64.toInt_inj, Int32.toInt_toInt64, Int32.reduceToInt, Int64.reduceToInt] at t_46_38
            refine lv_bipush (v := (-2)) hx hb dX8_lay_49 (by decide) ?_
            refine kIret (u := (fI, j0, j1, j2, j3)) hx hb hr rfl hlocks hS dX8_lay_51 ?_ (hP.sub [2, 0, 1] rfl) (hD.sub [2, 0, 1] (by decide) rfl)
            try dsimp only
            repeat' (with_reducible apply And.intro)
            all_goals first | with_reducible assumption | ((try simp only [jT_, jP_, jD_, jC_, jB_, jW_, Int32.reduceToInt, Int64.reduceToInt, true_or, or_true, true_and, and_true]) <;> omega)
        · have t_24_36 := c_24_36
          try simp only [kb_eq0, kb_ne0, lg_cmp_lt, lg_cmp_le, lg_cmp_gt, lg_cmp_ge, lg_cmp_eq] at t_24_36
          try simp only [Int32.lt_iff_toInt_lt, Int32.le_iff_toInt_le, ← Int32.toInt_inj, Int64.lt_iff_toInt_lt, Int64.le_iff_toInt_le, ← Int64.toInt_inj, Int32.toInt_toInt64, Int32.reduceToInt, Int64.reduceToInt] at t_24_36
          refine lv_lload_n hx hb dX8_lay_27 rfl (lv_at hl 2 rfl) ?_
          refine lv_ldc2 (v := (-3)) hx hb hown (hts (.constantLong RX8 113 (-3)) (List.mem_of_getElem? (i := 3) rfl)) dX8_lay_28 ?_
          refine W.lcmp hx hb dX8_lay_31 ?_
          refine lv_if_eq (tgt := 37) hx hb dX8_lay_32 (by decide) (fun c_32_43 => ?_) (fun c_32_43 => ?_)
          · have t_32_43 := c_32_43
            try simp only [kb_eq0, kb_ne0, lg_cmp_lt, lg_cmp_le, lg_cmp_gt, lg_cmp_ge, lg_cmp_eq] at t_32_43
            try simp only [Int32.lt_iff_toInt_lt, Int32.le_iff_toInt_le, ← Int32.toInt_inj, Int64.lt_iff_toInt_lt, Int64.le_iff_toInt_le, ← Int64.toInt_inj, Int32.toInt_toInt64, Int32.reduceToInt, Int64.reduceToInt] at t_32_43
            refine lv_aload_n hx hb dX8_lay_37 rfl (lv_at hl 0 rfl) ?_
            refine va_get (D := D) (ci := 8) (v := .ref mJ) (C := RX8) (T := TX8) (N := 31) hx hb hts iX8_lay_X8 hown hK hP 2 rfl rfl 15 (by decide) (hts (.fieldLink RX8 17 "TapeCalculatorModel" "items" "[I") (List.mem_of_getElem? (i := 4) rfl)) (fun _ h9 => h9) rfl dX8_lay_38 ?_
            refine lv_iload_n hx hb dX8_lay_41 rfl (lv_at hl 1 rfl) ?_
            refine va_iald hx hb hK hP 1 0 rfl rfl (vp_in_iff.mpr (by decide)) dX8_lay_42 ?_
            refine lv_topi (fun x_45 ex_45 => ?_)
            obtain rfl : j1 = x_45 := ex_45.symm
            refine lv_sipush (v := 300) hx hb dX8_lay_43 (by decide) ?_
            refine lv_icmp_ne (tgt := 52) hx hb dX8_lay_46 (by decide) (fun c_46_45 => ?_) (fun c_46_45 => ?_)
            · have t_46_45 := c_46_45
              try simp only [kb_eq0, kb_ne0, lg_cmp_lt, lg_cmp_le, lg_cmp_gt, lg_cmp_ge, lg_cmp_eq] at t_46_45
              try simp only [Int32.lt_iff_toInt_lt, Int32.le_iff_toInt_le, ← Int32.toInt_inj, Int64.lt_iff_toInt_lt, Int64.le_iff_toInt_le, ← Int64.toInt_inj, Int32.toInt_toInt64, Int32.reduceToInt, Int64.reduceToInt] at t_46_45
              refine lv_aload_n hx hb dX8_lay_52 rfl (lv_at hl 0 rfl) ?_
              refine va_get (D := D) (ci := 8) (v := .ref mI) (C := RX8) (T := TX8) (N := 31) hx hb hts iX8_lay_X8 hown hK hP 2 rfl rfl 14 (by decide) (hts (.fieldLink RX8 13 "TapeCalculatorModel" "item" "[J") (List.mem_of_getElem? (i := 5) rfl)) (fun _ h9 => h9) rfl dX8_lay_53 ?_
              refine lv_sipush (v := 300) hx hb dX8_lay_56 (by decide) ?_
              refine lv_iload_n hx hb dX8_lay_59 rfl (lv_at hl 1 rfl) ?_
              refine lv_imul hx hb dX8_lay_60 ?_
              refine lv_topi (fun x_47 ex_47 => ?_)
              obtain rfl : x_47 = 300 := ex_47.trans (by decide)
              refine lv_aload_n hx hb dX8_lay_61 rfl (lv_at hl 0 rfl) ?_
              refine va_get (D := D) (ci := 8) (v := .ref mJ) (C := RX8) (T := TX8) (N := 31) hx hb hts iX8_lay_X8 hown hK hP 2 rfl rfl 15 (by decide) (hts (.fieldLink RX8 17 "TapeCalculatorModel" "items" "[I") (List.mem_of_getElem? (i := 4) rfl)) (fun _ h9 => h9) rfl dX8_lay_62 ?_
              refine lv_iload_n hx hb dX8_lay_65 rfl (lv_at hl 1 rfl) ?_
              refine va_iald hx hb hK hP 1 0 rfl rfl (vp_in_iff.mpr (by decide)) dX8_lay_66 ?_
              refine lv_topi (fun x_48 ex_48 => ?_)
              obtain rfl : j1 = x_48 := ex_48.symm
              refine lv_iadd hx hb dX8_lay_67 ?_
              refine lv_lload_n hx hb dX8_lay_68 rfl (lv_at hl 2 rfl) ?_
              refine va_last hx hb hK hP hD hS 0 1 rfl rfl (vp_in_iff.mpr (by have hx9 := k_addg (a := 300) (b := j1) (by decide) (by omega); simp only [Int32.reduceToInt] at hx9; omega)) dX8_lay_69 (fun H locs hP hD hS => ?_)
              have hP : va_P D vwCl [(mI, .inl (cL, 1200, .inr (.inl (vp_updL fI (300 + j1).toNatClampNeg v)))), (mJ, .inl (cI, 4, .inl (k4i j0 j1 j2 j3))), (m0, .inr (8, [.ref mH, .int aM, .long aC, .int mM, .long mQ, .int oV, .int pL, .int lI, .int sW, .int dP, .int sT, .long aT, .int cH, .int iW, .ref mI, .ref mJ, .ref mS, .ref mD, .int iH, .int aE, .int mN, .long sZ, .ref mX, .int tS, .int tA, .int tW, .ref mA, .ref mB, .ref mW, .ref mL, .int lS]))] H := hP
              have hD : va_D A [(mI, .inl (cL, 1200, .inr (.inl (vp_updL fI (300 + j1).toNatClampNeg v)))), (mJ, .inl (cI, 4, .inl (k4i j0 j1 j2 j3))), (m0, .inr (8, [.ref mH, .int aM, .long aC, .int mM, .long mQ, .int oV, .int pL, .int lI, .int sW, .int dP, .int sT, .long aT, .int cH, .int iW, .ref mI, .ref mJ, .ref mS, .ref mD, .int iH, .int aE, .int mN, .long sZ, .ref mX, .int tS, .int tA, .int tW, .ref mA, .ref mB, .ref mW, .ref mL, .int lS]))] := hD
              refine lv_aload_n hx hb dX8_lay_70 rfl (lv_at hl 0 rfl) ?_
              refine va_get (D := D) (ci := 8) (v := .ref mJ) (C := RX8) (T := TX8) (N := 31) hx hb hts iX8_lay_X8 hown hK hP 2 rfl rfl 15 (by decide) (hts (.fieldLink RX8 17 "TapeCalculatorModel" "items" "[I") (List.mem_of_getElem? (i := 4) rfl)) (fun _ h9 => h9) rfl dX8_lay_71 ?_
              refine lv_iload_n hx hb dX8_lay_74 rfl (lv_at hl 1 rfl) ?_
              refine lv_dup2_11 hx hb dX8_lay_75 rfl rfl ?_
              refine va_iald hx hb hK hP 1 0 rfl rfl (vp_in_iff.mpr (by decide)) dX8_lay_76 ?_
              refine lv_topi (fun x_49 ex_49 => ?_)
              obtain rfl : j1 = x_49 := ex_49.symm
              refine lv_iconst (v := 1) hx hb dX8_lay_77 (by decide) ?_
              refine lv_iadd hx hb dX8_lay_78 ?_
              refine va_iast hx hb hK hP hD hS 1 0 rfl rfl (vp_in_iff.mpr (by decide)) dX8_lay_79 (fun H locs hP hD hS => ?_)
              rw [k4i_1] at hP hD
              have hP : va_P D vwCl [(mI, .inl (cL, 1200, .inr (.inl (vp_updL fI (300 + j1).toNatClampNeg v)))), (mJ, .inl (cI, 4, .inl (k4i j0 (j1 + 1) j2 j3))), (m0, .inr (8, [.ref mH, .int aM, .long aC, .int mM, .long mQ, .int oV, .int pL, .int lI, .int sW, .int dP, .int sT, .long aT, .int cH, .int iW, .ref mI, .ref mJ, .ref mS, .ref mD, .int iH, .int aE, .int mN, .long sZ, .ref mX, .int tS, .int tA, .int tW, .ref mA, .ref mB, .ref mW, .ref mL, .int lS]))] H := hP
              have hD : va_D A [(mI, .inl (cL, 1200, .inr (.inl (vp_updL fI (300 + j1).toNatClampNeg v)))), (mJ, .inl (cI, 4, .inl (k4i j0 (j1 + 1) j2 j3))), (m0, .inr (8, [.ref mH, .int aM, .long aC, .int mM, .long mQ, .int oV, .int pL, .int lI, .int sW, .int dP, .int sT, .long aT, .int cH, .int iW, .ref mI, .ref mJ, .ref mS, .ref mD, .int iH, .int aE, .int mN, .long sZ, .ref mX, .int tS, .int tA, .int tW, .ref mA, .ref mB, .ref mW, .ref mL, .int lS]))] := hD
              refine lv_aload_n hx hb dX8_lay_80 rfl (lv_at hl 0 rfl) ?_
              refine va_get (D := D) (ci := 8) (v := .ref mJ) (C := RX8) (T := TX8) (N := 31) hx hb hts iX8_lay_X8 hown hK hP 2 rfl rfl 15 (by decide) (hts (.fieldLink RX8 17 "TapeCalculatorModel" "items" "[I") (List.mem_of_getElem? (i := 4) rfl)) (fun _ h9 => h9) rfl dX8_lay_81 ?_
              refine lv_iload_n hx hb dX8_lay_84 rfl (lv_at hl 1 rfl) ?_
              refine va_iald hx hb hK hP 1 0 rfl rfl (vp_in_iff.mpr (by decide)) dX8_lay_85 ?_
              refine lv_topi (fun x_50 ex_50 => ?_)
              obtain rfl : (j1 + 1) = x_50 := ex_50.symm
              refine kIret (u := ((vp_updL fI (300 + j1).toNatClampNeg v), j0, (j1 + 1), j2, j3)) hx hb hr rfl hlocks hS dX8_lay_86 ?_ (hP.sub [2, 0, 1] rfl) (hD.sub [2, 0, 1] (by decide) rfl)
              try dsimp only
              repeat' (with_reducible apply And.intro)
              all_goals first | with_reducible assumption | ((try simp only [jT_, jP_, jD_, jC_, jB_, jW_, Int32.reduceToInt, Int64.reduceToInt, true_or, or_true, true_and, and_true]) <;> omega)
            · have t_46_45 := c_46_45
              try simp only [kb_eq0, kb_ne0, lg_cmp_lt, lg_cmp_le, lg_cmp_gt, lg_cmp_ge, lg_cmp_eq] at t_46_45
              try simp only [Int32.lt_iff_toInt_lt, Int32.le_iff_toInt_le, ← Int32.toInt_inj, Int64.lt_iff_toInt_lt, Int64.le_iff_toInt_le, ← Int64.toInt_inj, Int32.toInt_toInt64, Int32.reduceToInt, Int64.reduceToInt] at t_46_45
              refine lv_bipush (v := (-2)) hx hb dX8_lay_49 (by decide) ?_
              refine kIret (u := (fI, j0, j1, j2, j3)) hx hb hr rfl hlocks hS dX8_lay_51 ?_ (hP.sub [2, 0, 1] rfl) (hD.sub [2, 0, 1] (by decide) rfl)
              try dsimp only
              repeat' (with_reducible apply And.intro)
              all_goals first | with_reducible assumption | ((try simp only [jT_, jP_, jD_, jC_, jB_, jW_, Int32.reduceToInt, Int64.reduceToInt, true_or, or_true, true_and, and_true]) <;> omega)
          · have t_32_43 := c_32_43
            try simp only [kb_eq0, kb_ne0, lg_cmp_lt, lg_cmp_le, lg_cmp_gt, lg_cmp_ge, lg_cmp_eq] at t_32_43
            try simp only [Int32.lt_iff_toInt_lt, Int32.le_iff_toInt_le, ← Int32.toInt_inj, Int64.lt_iff_toInt_lt, Int64.le_iff_toInt_le, ← Int64.toInt_inj, Int32.toInt_toInt64, Int32.reduceToInt, Int64.reduceToInt] at t_32_43
            refine lv_iconst (v := (-1)) hx hb dX8_lay_35 (by decide) ?_
            refine kIret (u := (fI, j0, j1, j2, j3)) hx hb hr rfl hlocks hS dX8_lay_36 ?_ (hP.sub [2, 0, 1] rfl) (hD.sub [2, 0, 1] (by decide) rfl)
            try dsimp only
            repeat' (with_reducible apply And.intro)
            all_goals first | with_reducible assumption | ((try simp only [jT_, jP_, jD_, jC_, jB_, jW_, Int32.reduceToInt, Int64.reduceToInt, true_or, or_true, true_and, and_true]) <;> omega)
  · have hu2 : 0 ≤ s2.toInt ∧ s2.toInt ≤ j2.toInt ∧ j2.toInt ≤ 300 := ht2
    have hs1 := k_addg (a := j2) (b := 1) (by omega) (by decide)
    simp only [Int32.reduceToInt] at hs1
    refine lv_aload_n hx hb dX8_lay_0 rfl (lv_at hl 0 rfl) ?_
    refine lv_iload_n hx hb dX8_lay_1 rfl (lv_at hl 1 rfl) ?_
    refine kCallI (wr := [(mI, .inl (cL, 1200, .inr (.inl fI))), (mJ, .inl (cI, 4, .inl (k4i j0 j1 j2 j3)))]) (va_runV (As := [.int 2]) (rest := []) ⟨hx, hb, hml, hown, hts⟩ (q_isTape l D cI cL cB cZ cT _ m0 mH mI mJ mS mD mX mA mB mW mL aM aC mM mQ oV pL lI sW dP sT aT cH iW iH aE mN sZ tS tA tW lS 2) (cwV 1 hts gX8_lay_X8_isTape rfl rfl rfl (by decide +kernel) ⟨Nat.le_of_ble_eq_true rfl, Nat.le_of_ble_eq_true rfl⟩) (kPreV hG hP hD [0] rfl (by decide) 0 8 rfl rfl rfl) rfl rfl hl.1 rfl (lv_room (Nat.le_of_ble_eq_true rfl)) dX8_lay_2 ⟨Nat.le_of_ble_eq_true rfl, Nat.le_of_ble_eq_true rfl⟩) hA hP hD hS [0] [1, 2] rfl rfl (by decide) (by decide) (fun r_51 u_r_51 H locs wr_51 hP hD hS => ?_)
    have hP : va_P D vwCl [(mI, .inl (cL, 1200, .inr (.inl fI))), (mJ, .inl (cI, 4, .inl (k4i j0 j1 j2 j3))), (m0, .inr (8, [.ref mH, .int aM, .long aC, .int mM, .long mQ, .int oV, .int pL, .int lI, .int sW, .int dP, .int sT, .long aT, .int cH, .int iW, .ref mI, .ref mJ, .ref mS, .ref mD, .int iH, .int aE, .int mN, .long sZ, .ref mX, .int tS, .int tA, .int tW, .ref mA, .ref mB, .ref mW, .ref mL, .int lS]))] H := hP
    have hD : va_D A [(mI, .inl (cL, 1200, .inr (.inl fI))), (mJ, .inl (cI, 4, .inl (k4i j0 j1 j2 j3))), (m0, .inr (8, [.ref mH, .int aM, .long aC, .int mM, .long mQ, .int oV, .int pL, .int lI, .int sW, .int dP, .int sT, .long aT, .int cH, .int iW, .ref mI, .ref mJ, .ref mS, .ref mD, .int iH, .int aE, .int mN, .long sZ, .ref mX, .int tS, .int tA, .int tW, .ref mA, .ref mB, .ref mW, .ref mL, .int lS]))] := hD
    try dsimp only at wr_51
    subst wr_51
    refine lv_if_eq (tgt := 35) hx hb dX8_lay_5 (by decide) (fun c_5_51 => ?_) (fun c_5_51 => ?_)
    · have t_5_51 := c_5_51
      try simp only [kb_eq0, kb_ne0, lg_cmp_lt, lg_cmp_le, lg_cmp_gt, lg_cmp_ge, lg_cmp_eq] at t_5_51
      try simp only [Int32.lt_iff_toInt_lt, Int32.le_iff_toInt_le, ← Int32.toInt_inj, Int64.lt_iff_toInt_lt, Int64.le_iff_toInt_le, ← Int64.toInt_inj, Int32.toInt_toInt64, Int32.reduceToInt, Int64.reduceToInt] at t_5_51
      omega
    · have t_5_51 := c_5_51
      try simp only [kb_eq0, kb_ne0, lg_cmp_lt, lg_cmp_le, lg_cmp_gt, lg_cmp_ge, lg_cmp_eq] at t_5_51
      try simp only [Int32.lt_iff_toInt_lt, Int32.le_iff_toInt_le, ← Int32.toInt_inj, Int64.lt_iff_toInt_lt, Int64.le_iff_toInt_le, ← Int64.toInt_inj, Int32.toInt_toInt64, Int32.reduceToInt, Int64.reduceToInt] at t_5_51
      refine lv_lload_n hx hb dX8_lay_8 rfl (lv_at hl 2 rfl) ?_
      refine lv_lconst (v := 0) hx hb dX8_lay_9 (by decide) ?_
      refine lv_ldc2 (v := 68719476735) hx hb hown (hts (.constantLong RX8 109 (68719476735)) (List.mem_of_getElem? (i := 1) rfl)) dX8_lay_10 ?_
      refine kCallI (wr := [(mI, .inl (cL, 1200, .inr (.inl fI))), (mJ, .inl (cI, 4, .inl (k4i j0 j1 j2 j3))), (m0, .inr (8, [.ref mH, .int aM, .long aC, .int mM, .long mQ, .int oV, .int pL, .int lI, .int sW, .int dP, .int sT, .long aT, .int cH, .int iW, .ref mI, .ref mJ, .ref mS, .ref mD, .int iH, .int aE, .int mN, .long sZ, .ref mX, .int tS, .int tA, .int tW, .ref mA, .ref mB, .ref mW, .ref mL, .int lS]))]) (va_runS (As := [.long v, .long 0, .long 68719476735]) (rest := []) ⟨hx, hb, hml, hown, hts⟩ (q_in l D cI cL cB cZ cT _ v 0 68719476735) (va_cwS 3 hts gX8_lay_X8_in rfl rfl rfl (by decide +kernel) ⟨Nat.le_of_ble_eq_true rfl, Nat.le_of_ble_eq_true rfl⟩) (kPreS hG hP hD [] rfl (by decide)) rfl rfl hl.1 rfl (lv_room (Nat.le_of_ble_eq_true rfl)) dX8_lay_13 ⟨Nat.le_of_ble_eq_true rfl, Nat.le_of_ble_eq_true rfl⟩) hA hP hD hS [] [0, 1, 2] rfl rfl (by decide) (by decide) (fun r_53 u_r_53 H locs wr_53 hP hD hS => ?_)
      have hP : va_P D vwCl [(mI, .inl (cL, 1200, .inr (.inl fI))), (mJ, .inl (cI, 4, .inl (k4i j0 j1 j2 j3))), (m0, .inr (8, [.ref mH, .int aM, .long aC, .int mM, .long mQ, .int oV, .int pL, .int lI, .int sW, .int dP, .int sT, .long aT, .int cH, .int iW, .ref mI, .ref mJ, .ref mS, .ref mD, .int iH, .int aE, .int mN, .long sZ, .ref mX, .int tS, .int tA, .int tW, .ref mA, .ref mB, .ref mW, .ref mL, .int lS]))] H := hP
      have hD : va_D A [(mI, .inl (cL, 1200, .inr (.inl fI))), (mJ, .inl (cI, 4, .inl (k4i j0 j1 j2 j3))), (m0, .inr (8, [.ref mH, .int aM, .long aC, .int mM, .long mQ, .int oV, .int pL, .int lI, .int sW, .int dP, .int sT, .long aT, .int cH, .int iW, .ref mI, .ref mJ, .ref mS, .ref mD, .int iH, .int aE, .int mN, .long sZ, .ref mX, .int tS, .int tA, .int tW, .ref mA, .ref mB, .ref mW, .ref mL, .int lS]))] := hD
      try dsimp only at wr_53
      subst wr_53
      refine lv_if_ne (tgt := 37) hx hb dX8_lay_16 (by decide) (fun c_16_53 => ?_) (fun c_16_53 => ?_)
      · have t_16_53 := c_16_53
        try simp only [kb_eq0, kb_ne0, lg_cmp_lt, lg_cmp_le, lg_cmp_gt, lg_cmp_ge, lg_cmp_eq] at t_16_53
        try simp only [Int32.lt_iff_toInt_lt, Int32.le_iff_toInt_le, ← Int32.toInt_inj, Int64.lt_iff_toInt_lt, Int64.le_iff_toInt_le, ← Int64.toInt_inj, Int32.toInt_toInt64, Int32.reduceToInt, Int64.reduceToInt] at t_16_53
        refine lv_aload_n hx hb dX8_lay_37 rfl (lv_at hl 0 rfl) ?_
        refine va_get (D := D) (ci := 8) (v := .ref mJ) (C := RX8) (T := TX8) (N := 31) hx hb hts iX8_lay_X8 hown hK hP 2 rfl rfl 15 (by decide) (hts (.fieldLink RX8 17 "TapeCalculatorModel" "items" "[I") (List.mem_of_getElem? (i := 4) rfl)) (fun _ h9 => h9) rfl dX8_lay_38 ?_
        refine lv_iload_n hx hb dX8_lay_41 rfl (lv_at hl 1 rfl) ?_
        refine va_iald hx hb hK hP 1 0 rfl rfl (vp_in_iff.mpr (by decide)) dX8_lay_42 ?_
        refine lv_topi (fun x_55 ex_55 => ?_)
        obtain rfl : j2 = x_55 := ex_55.symm
        refine lv_sipush (v := 300) hx hb dX8_lay_43 (by decide) ?_
        refine lv_icmp_ne (tgt := 52) hx hb dX8_lay_46 (by decide) (fun c_46_55 => ?_) (fun c_46_55 => ?_)
        · have t_46_55 := c_46_55
          try simp only [kb_eq0, kb_ne0, lg_cmp_lt, lg_cmp_le, lg_cmp_gt, lg_cmp_ge, lg_cmp_eq] at t_46_55
          try simp only [Int32.lt_iff_toInt_lt, Int32.le_iff_toInt_le, ← Int32.toInt_inj, Int64.lt_iff_toInt_lt, Int64.le_iff_toInt_le, ← Int64.toInt_inj, Int32.toInt_toInt64, Int32.reduceToInt, Int64.reduceToInt] at t_46_55
          refine lv_aload_n hx hb dX8_lay_52 rfl (lv_at hl 0 rfl) ?_
          refine va_get (D := D) (ci := 8) (v := .ref mI) (C := RX8) (T := TX8) (N := 31) hx hb hts iX8_lay_X8 hown hK hP 2 rfl rfl 14 (by decide) (hts (.fieldLink RX8 13 "TapeCalculatorModel" "item" "[J") (List.mem_of_getElem? (i := 5) rfl)) (fun _ h9 => h9) rfl dX8_lay_53 ?_
          refine lv_sipush (v := 300) hx hb dX8_lay_56 (by decide) ?_
          refine lv_iload_n hx hb dX8_lay_59 rfl (lv_at hl 1 rfl) ?_
          refine lv_imul hx hb dX8_lay_60 ?_
          refine lv_topi (fun x_57 ex_57 => ?_)
          obtain rfl : x_57 = 600 := ex_57.trans (by decide)
          refine lv_aload_n hx hb dX8_lay_61 rfl (lv_at hl 0 rfl) ?_
          refine va_get (D := D) (ci := 8) (v := .ref mJ) (C := RX8) (T := TX8) (N := 31) hx hb hts iX8_lay_X8 hown hK hP 2 rfl rfl 15 (by decide) (hts (.fieldLink RX8 17 "TapeCalculatorModel" "items" "[I") (List.mem_of_getElem? (i := 4) rfl)) (fun _ h9 => h9) rfl dX8_lay_62 ?_
          refine lv_iload_n hx hb dX8_lay_65 rfl (lv_at hl 1 rfl) ?_
          refine va_iald hx hb hK hP 1 0 rfl rfl (vp_in_iff.mpr (by decide)) dX8_lay_66 ?_
          refine lv_topi (fun x_58 ex_58 => ?_)
          obtain rfl : j2 = x_58 := ex_58.symm
          refine lv_iadd hx hb dX8_lay_67 ?_
          refine lv_lload_n hx hb dX8_lay_68 rfl (lv_at hl 2 rfl) ?_
          refine va_last hx hb hK hP hD hS 0 1 rfl rfl (vp_in_iff.mpr (by have hx9 := k_addg (a := 600) (b := j2) (by decide) (by omega); simp only [Int32.reduceToInt] at hx9; omega)) dX8_lay_69 (fun H locs hP hD hS => ?_)
          have hP : va_P D vwCl [(mI, .inl (cL, 1200, .inr (.inl (vp_updL fI (600 + j2).toNatClampNeg v)))), (mJ, .inl (cI, 4, .inl (k4i j0 j1 j2 j3))), (m0, .inr (8, [.ref mH, .int aM, .long aC, .int mM, .long mQ, .int oV, .int pL, .int lI, .int sW, .int dP, .int sT, .long aT, .int cH, .int iW, .ref mI, .ref mJ, .ref mS, .ref mD, .int iH, .int aE, .int mN, .long sZ, .ref mX, .int tS, .int tA, .int tW, .ref mA, .ref mB, .ref mW, .ref mL, .int lS]))] H := hP
          have hD : va_D A [(mI, .inl (cL, 1200, .inr (.inl (vp_updL fI (600 + j2).toNatClampNeg v)))), (mJ, .inl (cI, 4, .inl (k4i j0 j1 j2 j3))), (m0, .inr (8, [.ref mH, .int aM, .long aC, .int mM, .long mQ, .int oV, .int pL, .int lI, .int sW, .int dP, .int sT, .long aT, .int cH, .int iW, .ref mI, .ref mJ, .ref mS, .ref mD, .int iH, .int aE, .int mN, .long sZ, .ref mX, .int tS, .int tA, .int tW, .ref mA, .ref mB, .ref mW, .ref mL, .int lS]))] := hD
          refine lv_aload_n hx hb dX8_lay_70 rfl (lv_at hl 0 rfl) ?_
          refine va_get (D := D) (ci := 8) (v := .ref mJ) (C := RX8) (T := TX8) (N := 31) hx hb hts iX8_lay_X8 hown hK hP 2 rfl rfl 15 (by decide) (hts (.fieldLink RX8 17 "TapeCalculatorModel" "items" "[I") (List.mem_of_getElem? (i := 4) rfl)) (fun _ h9 => h9) rfl dX8_lay_71 ?_
          refine lv_iload_n hx hb dX8_lay_74 rfl (lv_at hl 1 rfl) ?_
          refine lv_dup2_11 hx hb dX8_lay_75 rfl rfl ?_
          refine va_iald hx hb hK hP 1 0 rfl rfl (vp_in_iff.mpr (by decide)) dX8_lay_76 ?_
          refine lv_topi (fun x_59 ex_59 => ?_)
          obtain rfl : j2 = x_59 := ex_59.symm
          refine lv_iconst (v := 1) hx hb dX8_lay_77 (by decide) ?_
          refine lv_iadd hx hb dX8_lay_78 ?_
          refine va_iast hx hb hK hP hD hS 1 0 rfl rfl (vp_in_iff.mpr (by decide)) dX8_lay_79 (fun H locs hP hD hS => ?_)
          rw [k4i_2] at hP hD
          have hP : va_P D vwCl [(mI, .inl (cL, 1200, .inr (.inl (vp_updL fI (600 + j2).toNatClampNeg v)))), (mJ, .inl (cI, 4, .inl (k4i j0 j1 (j2 + 1) j3))), (m0, .inr (8, [.ref mH, .int aM, .long aC, .int mM, .long mQ, .int oV, .int pL, .int lI, .int sW, .int dP, .int sT, .long aT, .int cH, .int iW, .ref mI, .ref mJ, .ref mS, .ref mD, .int iH, .int aE, .int mN, .long sZ, .ref mX, .int tS, .int tA, .int tW, .ref mA, .ref mB, .ref mW, .ref mL, .int lS]))] H := hP
          have hD : va_D A [(mI, .inl (cL, 1200, .inr (.inl (vp_updL fI (600 + j2).toNatClampNeg v)))), (mJ, .inl (cI, 4, .inl (k4i j0 j1 (j2 + 1) j3))), (m0, .inr (8, [.ref mH, .int aM, .long aC, .int mM, .long mQ, .int oV, .int pL, .int lI, .int sW, .int dP, .int sT, .long aT, .int cH, .int iW, .ref mI, .ref mJ, .ref mS, .ref mD, .int iH, .int aE, .int mN, .long sZ, .ref mX, .int tS, .int tA, .int tW, .ref mA, .ref mB, .ref mW, .ref mL, .int lS]))] := hD
          refine lv_aload_n hx hb dX8_lay_80 rfl (lv_at hl 0 rfl) ?_
          refine va_get (D := D) (ci := 8) (v := .ref mJ) (C := RX8) (T := TX8) (N := 31) hx hb hts iX8_lay_X8 hown hK hP 2 rfl rfl 15 (by decide) (hts (.fieldLink RX8 17 "TapeCalculatorModel" "items" "[I") (List.mem_of_getElem? (i := 4) rfl)) (fun _ h9 => h9) rfl dX8_lay_81 ?_
          refine lv_iload_n hx hb dX8_lay_84 rfl (lv_at hl 1 rfl) ?_
          refine va_iald hx hb hK hP 1 0 rfl rfl (vp_in_iff.mpr (by decide)) dX8_lay_85 ?_
          refine lv_topi (fun x_60 ex_60 => ?_)
          obtain rfl : (j2 + 1) = x_60 := ex_60.symm
          refine kIret (u := ((vp_updL fI (600 + j2).toNatClampNeg v), j0, j1, (j2 + 1), j3)) hx hb hr rfl hlocks hS dX8_lay_86 ?_ (hP.sub [2, 0, 1] rfl) (hD.sub [2, 0, 1] (by decide) rfl)
          try dsimp only
          repeat' (with_reducible apply And.intro)
          all_goals first | with_reducible assumption | ((try simp only [jT_, jP_, jD_, jC_, jB_, jW_, Int32.reduceToInt, Int64.reduceToInt, true_or, or_true, true_and, and_true]) <;> omega)
        · have t_46_55 := c_46_55
          try simp only [kb_eq0, kb_ne0, lg_cmp_lt, lg_cmp_le, lg_cmp_gt, lg_cmp_ge, lg_cmp_eq] at t_46_55
          try simp only [Int32.lt_iff_toInt_lt, Int32.le_iff_toInt_le, ← Int32.toInt_inj, Int64.lt_iff_toInt_lt, Int64.le_iff_toInt_le, ← Int64.toInt_inj, Int32.toInt_toInt64, Int32.reduceToInt, Int64.reduceToInt] at t_46_55
          refine lv_bipush (v := (-2)) hx hb dX8_lay_49 (by decide) ?_
          refine kIret (u := (fI, j0, j1, j2, j3)) hx hb hr rfl hlocks hS dX8_lay_51 ?_ (hP.sub [2, 0, 1] rfl) (hD.sub [2, 0, 1] (by decide) rfl)
          try dsimp only
          repeat' (with_reducible apply And.intro)
          all_goals first | with_reducible assumption | ((try simp only [jT_, jP_, jD_, jC_, jB_, jW_, Int32.reduceToInt, Int64.reduceToInt, true_or, or_true, true_and, and_true]) <;> omega)
      · have t_16_53 := c_16_53
        try simp only [kb_eq0, kb_ne0, lg_cmp_lt, lg_cmp_le, lg_cmp_gt, lg_cmp_ge, lg_cmp_eq] at t_16_53
        try simp only [Int32.lt_iff_toInt_lt, Int32.le_iff_toInt_le, ← Int32.toInt_inj, Int64.lt_iff_toInt_lt, Int64.le_iff_toInt_le, ← Int64.toInt_inj, Int32.toInt_toInt64, Int32.reduceToInt, Int64.reduceToInt] at t_16_53
        refine lv_lload_n hx hb dX8_lay_19 rfl (lv_at hl 2 rfl) ?_
        refine lv_ldc2 (v := (-2)) hx hb hown (hts (.constantLong RX8 111 (-2)) (List.mem_of_getElem? (i := 2) rfl)) dX8_lay_20 ?_
        refine W.lcmp hx hb dX8_lay_23 ?_
        refine lv_if_eq (tgt := 37) hx hb dX8_lay_24 (by decide) (fun c_24_60 => ?_) (fun c_24_60 => ?_)
        · have t_24_60 := c_24_60
          try simp only [kb_eq0, kb_ne0, lg_cmp_lt, lg_cmp_le, lg_cmp_gt, lg_cmp_ge, lg_cmp_eq] at t_24_60
          try simp only [Int32.lt_iff_toInt_lt, Int32.le_iff_toInt_le, ← Int32.toInt_inj, Int64.lt_iff_toInt_lt, Int64.le_iff_toInt_le, ← Int64.toInt_inj, Int32.toInt_toInt64, Int32.reduceToInt, Int64.reduceToInt] at t_24_60
          refine lv_aload_n hx hb dX8_lay_37 rfl (lv_at hl 0 rfl) ?_
          refine va_get (D := D) (ci := 8) (v := .ref mJ) (C := RX8) (T := TX8) (N := 31) hx hb hts iX8_lay_X8 hown hK hP 2 rfl rfl 15 (by decide) (hts (.fieldLink RX8 17 "TapeCalculatorModel" "items" "[I") (List.mem_of_getElem? (i := 4) rfl)) (fun _ h9 => h9) rfl dX8_lay_38 ?_
          refine lv_iload_n hx hb dX8_lay_41 rfl (lv_at hl 1 rfl) ?_
          refine va_iald hx hb hK hP 1 0 rfl rfl (vp_in_iff.mpr (by decide)) dX8_lay_42 ?_
          refine lv_topi (fun x_62 ex_62 => ?_)
          obtain rfl : j2 = x_62 := ex_62.symm
          refine lv_sipush (v := 300) hx hb dX8_lay_43 (by decide) ?_
          refine lv_icmp_ne (tgt := 52) hx hb dX8_lay_46 (by decide) (fun c_46_62 => ?_) (fun c_46_62 => ?_)
          · have t_46_62 := c_46_62
            try simp only [kb_eq0, kb_ne0, lg_cmp_lt, lg_cmp_le, lg_cmp_gt, lg_cmp_ge, lg_cmp_eq] at t_46_62
            try simp only [Int32.lt_iff_toInt_lt, Int32.le_iff_toInt_le, ← Int32.toInt_inj, Int64.lt_iff_toInt_lt, Int64.le_iff_toInt_le, ← Int64.toInt_inj, Int32.toInt_toInt64, Int32.reduceToInt, Int64.reduceToInt] at t_46_62
            refine lv_aload_n hx hb dX8_lay_52 rfl (lv_at hl 0 rfl) ?_
            refine va_get (D := D) (ci := 8) (v := .ref mI) (C := RX8) (T := TX8) (N := 31) hx hb hts iX8_lay_X8 hown hK hP 2 rfl rfl 14 (by decide) (hts (.fieldLink RX8 13 "TapeCalculatorModel" "item" "[J") (List.mem_of_getElem? (i := 5) rfl)) (fun _ h9 => h9) rfl dX8_lay_53 ?_
            refine lv_sipush (v := 300) hx hb dX8_lay_56 (by decide) ?_
            refine lv_iload_n hx hb dX8_lay_59 rfl (lv_at hl 1 rfl) ?_
            refine lv_imul hx hb dX8_lay_60 ?_
            refine lv_topi (fun x_64 ex_64 => ?_)
            obtain rfl : x_64 = 600 := ex_64.trans (by decide)
            refine lv_aload_n hx hb dX8_lay_61 rfl (lv_at hl 0 rfl) ?_
            refine va_get (D := D) (ci := 8) (v := .ref mJ) (C := RX8) (T := TX8) (N := 31) hx hb hts iX8_lay_X8 hown hK hP 2 rfl rfl 15 (by decide) (hts (.fieldLink RX8 17 "TapeCalculatorModel" "items" "[I") (List.mem_of_getElem? (i := 4) rfl)) (fun _ h9 => h9) rfl dX8_lay_62 ?_
            refine lv_iload_n hx hb dX8_lay_65 rfl (lv_at hl 1 rfl) ?_
            refine va_iald hx hb hK hP 1 0 rfl rfl (vp_in_iff.mpr (by decide)) dX8_lay_66 ?_
            refine lv_topi (fun x_65 ex_65 => ?_)
            obtain rfl : j2 = x_65 := ex_65.symm
            refine lv_iadd hx hb dX8_lay_67 ?_
            refine lv_lload_n hx hb dX8_lay_68 rfl (lv_at hl 2 rfl) ?_
            refine va_last hx hb hK hP hD hS 0 1 rfl rfl (vp_in_iff.mpr (by have hx9 := k_addg (a := 600) (b := j2) (by decide) (by omega); simp only [Int32.reduceToInt] at hx9; omega)) dX8_lay_69 (fun H locs hP hD hS => ?_)
            have hP : va_P D vwCl [(mI, .inl (cL, 1200, .inr (.inl (vp_updL fI (600 + j2).toNatClampNeg v)))), (mJ, .inl (cI, 4, .inl (k4i j0 j1 j2 j3))), (m0, .inr (8, [.ref mH, .int aM, .long aC, .int mM, .long mQ, .int oV, .int pL, .int lI, .int sW, .int dP, .int sT, .long aT, .int cH, .int iW, .ref mI, .ref mJ, .ref mS, .ref mD, .int iH, .int aE, .int mN, .long sZ, .ref mX, .int tS, .int tA, .int tW, .ref mA, .ref mB, .ref mW, .ref mL, .int lS]))] H := hP
            have hD : va_D A [(mI, .inl (cL, 1200, .inr (.inl (vp_updL fI (600 + j2).toNatClampNeg v)))), (mJ, .inl (cI, 4, .inl (k4i j0 j1 j2 j3))), (m0, .inr (8, [.ref mH, .int aM, .long aC, .int mM, .long mQ, .int oV, .int pL, .int lI, .int sW, .int dP, .int sT, .long aT, .int cH, .int iW, .ref mI, .ref mJ, .ref mS, .ref mD, .int iH, .int aE, .int mN, .long sZ, .ref mX, .int tS, .int tA, .int tW, .ref mA, .ref mB, .ref mW, .ref mL, .int lS]))] := hD
            refine lv_aload_n hx hb dX8_lay_70 rfl (lv_at hl 0 rfl) ?_
            refine va_get (D := D) (ci := 8) (v := .ref mJ) (C := RX8) (T := TX8) (N := 31) hx hb hts iX8_lay_X8 hown hK hP 2 rfl rfl 15 (by decide) (hts (.fieldLink RX8 17 "TapeCalculatorModel" "items" "[I") (List.mem_of_getElem? (i := 4) rfl)) (fun _ h9 => h9) rfl dX8_lay_71 ?_
            refine lv_iload_n hx hb dX8_lay_74 rfl (lv_at hl 1 rfl) ?_
            refine lv_dup2_11 hx hb dX8_lay_75 rfl rfl ?_
            refine va_iald hx hb hK hP 1 0 rfl rfl (vp_in_iff.mpr (by decide)) dX8_lay_76 ?_
            refine lv_topi (fun x_66 ex_66 => ?_)
            obtain rfl : j2 = x_66 := ex_66.symm
            refine lv_iconst (v := 1) hx hb dX8_lay_77 (by decide) ?_
            refine lv_iadd hx hb dX8_lay_78 ?_
            refine va_iast hx hb hK hP hD hS 1 0 rfl rfl (vp_in_iff.mpr (by decide)) dX8_lay_79 (fun H locs hP hD hS => ?_)
            rw [k4i_2] at hP hD
            have hP : va_P D vwCl [(mI, .inl (cL, 1200, .inr (.inl (vp_updL fI (600 + j2).toNatClampNeg v)))), (mJ, .inl (cI, 4, .inl (k4i j0 j1 (j2 + 1) j3))), (m0, .inr (8, [.ref mH, .int aM, .long aC, .int mM, .long mQ, .int oV, .int pL, .int lI, .int sW, .int dP, .int sT, .long aT, .int cH, .int iW, .ref mI, .ref mJ, .ref mS, .ref mD, .int iH, .int aE, .int mN, .long sZ, .ref mX, .int tS, .int tA, .int tW, .ref mA, .ref mB, .ref mW, .ref mL, .int lS]))] H := hP
            have hD : va_D A [(mI, .inl (cL, 1200, .inr (.inl (vp_updL fI (600 + j2).toNatClampNeg v)))), (mJ, .inl (cI, 4, .inl (k4i j0 j1 (j2 + 1) j3))), (m0, .inr (8, [.ref mH, .int aM, .long aC, .int mM, .long mQ, .int oV, .int pL, .int lI, .int sW, .int dP, .int sT, .long aT, .int cH, .int iW, .ref mI, .ref mJ, .ref mS, .ref mD, .int iH, .int aE, .int mN, .long sZ, .ref mX, .int tS, .int tA, .int tW, .ref mA, .ref mB, .ref mW, .ref mL, .int lS]))] := hD
            refine lv_aload_n hx hb dX8_lay_80 rfl (lv_at hl 0 rfl) ?_
            refine va_get (D := D) (ci := 8) (v := .ref mJ) (C := RX8) (T := TX8) (N := 31) hx hb hts iX8_lay_X8 hown hK hP 2 rfl rfl 15 (by decide) (hts (.fieldLink RX8 17 "TapeCalculatorModel" "items" "[I") (List.mem_of_getElem? (i := 4) rfl)) (fun _ h9 => h9) rfl dX8_lay_81 ?_
            refine lv_iload_n hx hb dX8_lay_84 rfl (lv_at hl 1 rfl) ?_
            refine va_iald hx hb hK hP 1 0 rfl rfl (vp_in_iff.mpr (by decide)) dX8_lay_85 ?_
            refine lv_topi (fun x_67 ex_67 => ?_)
            obtain rfl : (j2 + 1) = x_67 := ex_67.symm
            refine kIret (u := ((vp_updL fI (600 + j2).toNatClampNeg v), j0, j1, (j2 + 1), j3)) hx hb hr rfl hlocks hS dX8_lay_86 ?_ (hP.sub [2, 0, 1] rfl) (hD.sub [2, 0, 1] (by decide) rfl)
            try dsimp only
            repeat' (with_reducible apply And.intro)
            all_goals first | with_reducible assumption | ((try simp only [jT_, jP_, jD_, jC_, jB_, jW_, Int32.reduceToInt, Int64.reduceToInt, true_or, or_true, true_and, and_true]) <;> omega)
          · have t_46_62 := c_46_62
            try simp only [kb_eq0, kb_ne0, lg_cmp_lt, lg_cmp_le, lg_cmp_gt, lg_cmp_ge, lg_cmp_eq] at t_46_62
            try simp only [Int32.lt_iff_toInt_lt, Int32.le_iff_toInt_le, ← Int32.toInt_inj, Int64.lt_iff_toInt_lt, Int64.le_iff_toInt_le, ← Int64.toInt_inj, Int32.toInt_toInt64, Int32.reduceToInt, Int64.reduceToInt] at t_46_62
            refine lv_bipush (v := (-2)) hx hb dX8_lay_49 (by decide) ?_
            refine kIret (u := (fI, j0, j1, j2, j3)) hx hb hr rfl hlocks hS dX8_lay_51 ?_ (hP.sub [2, 0, 1] rfl) (hD.sub [2, 0, 1] (by decide) rfl)
            try dsimp only
            repeat' (with_reducible apply And.intro)
            all_goals first | with_reducible assumption | ((try simp only [jT_, jP_, jD_, jC_, jB_, jW_, Int32.reduceToInt, Int64.reduceToInt, true_or, or_true, true_and, and_true]) <;> omega)
        · have t_24_60 := c_24_60
          try simp only [kb_eq0, kb_ne0, lg_cmp_lt, lg_cmp_le, lg_cmp_gt, lg_cmp_ge, lg_cmp_eq] at t_24_60
          try simp only [Int32.lt_iff_toInt_lt, Int32.le_iff_toInt_le, ← Int32.toInt_inj, Int64.lt_iff_toInt_lt, Int64.le_iff_toInt_le, ← Int64.toInt_inj, Int32.toInt_toInt64, Int32.reduceToInt, Int64.reduceToInt] at t_24_60
          refine lv_lload_n hx hb dX8_lay_27 rfl (lv_at hl 2 rfl) ?_
          refine lv_ldc2 (v := (-3)) hx hb hown (hts (.constantLong RX8 113 (-3)) (List.mem_of_getElem? (i := 3) rfl)) dX8_lay_28 ?_
          refine W.lcmp hx hb dX8_lay_31 ?_
          refine lv_if_eq (tgt := 37) hx hb dX8_lay_32 (by decide) (fun c_32_67 => ?_) (fun c_32_67 => ?_)
          · have t_32_67 := c_32_67
            try simp only [kb_eq0, kb_ne0, lg_cmp_lt, lg_cmp_le, lg_cmp_gt, lg_cmp_ge, lg_cmp_eq] at t_32_67
            try simp only [Int32.lt_iff_toInt_lt, Int32.le_iff_toInt_le, ← Int32.toInt_inj, Int64.lt_iff_toInt_lt, Int64.le_iff_toInt_le, ← Int64.toInt_inj, Int32.toInt_toInt64, Int32.reduceToInt, Int64.reduceToInt] at t_32_67
            refine lv_aload_n hx hb dX8_lay_37 rfl (lv_at hl 0 rfl) ?_
            refine va_get (D := D) (ci := 8) (v := .ref mJ) (C := RX8) (T := TX8) (N := 31) hx hb hts iX8_lay_X8 hown hK hP 2 rfl rfl 15 (by decide) (hts (.fieldLink RX8 17 "TapeCalculatorModel" "items" "[I") (List.mem_of_getElem? (i := 4) rfl)) (fun _ h9 => h9) rfl dX8_lay_38 ?_
            refine lv_iload_n hx hb dX8_lay_41 rfl (lv_at hl 1 rfl) ?_
            refine va_iald hx hb hK hP 1 0 rfl rfl (vp_in_iff.mpr (by decide)) dX8_lay_42 ?_
            refine lv_topi (fun x_69 ex_69 => ?_)
            obtain rfl : j2 = x_69 := ex_69.symm
            refine lv_sipush (v := 300) hx hb dX8_lay_43 (by decide) ?_
            refine lv_icmp_ne (tgt := 52) hx hb dX8_lay_46 (by decide) (fun c_46_69 => ?_) (fun c_46_69 => ?_)
            · have t_46_69 := c_46_69
              try simp only [kb_eq0, kb_ne0, lg_cmp_lt, lg_cmp_le, lg_cmp_gt, lg_cmp_ge, lg_cmp_eq] at t_46_69
              try simp only [Int32.lt_iff_toInt_lt, Int32.le_iff_toInt_le, ← Int32.toInt_inj, Int64.lt_iff_toInt_lt, Int64.le_iff_toInt_le, ← Int64.toInt_inj, Int32.toInt_toInt64, Int32.reduceToInt, Int64.reduceToInt] at t_46_69
              refine lv_aload_n hx hb dX8_lay_52 rfl (lv_at hl 0 rfl) ?_
              refine va_get (D := D) (ci := 8) (v := .ref mI) (C := RX8) (T := TX8) (N := 31) hx hb hts iX8_lay_X8 hown hK hP 2 rfl rfl 14 (by decide) (hts (.fieldLink RX8 13 "TapeCalculatorModel" "item" "[J") (List.mem_of_getElem? (i := 5) rfl)) (fun _ h9 => h9) rfl dX8_lay_53 ?_
              refine lv_sipush (v := 300) hx hb dX8_lay_56 (by decide) ?_
              refine lv_iload_n hx hb dX8_lay_59 rfl (lv_at hl 1 rfl) ?_
              refine lv_imul hx hb dX8_lay_60 ?_
              refine lv_topi (fun x_71 ex_71 => ?_)
              obtain rfl : x_71 = 600 := ex_71.trans (by decide)
              refine lv_aload_n hx hb dX8_lay_61 rfl (lv_at hl 0 rfl) ?_
              refine va_get (D := D) (ci := 8) (v := .ref mJ) (C := RX8) (T := TX8) (N := 31) hx hb hts iX8_lay_X8 hown hK hP 2 rfl rfl 15 (by decide) (hts (.fieldLink RX8 17 "TapeCalculatorModel" "items" "[I") (List.mem_of_getElem? (i := 4) rfl)) (fun _ h9 => h9) rfl dX8_lay_62 ?_
              refine lv_iload_n hx hb dX8_lay_65 rfl (lv_at hl 1 rfl) ?_
              refine va_iald hx hb hK hP 1 0 rfl rfl (vp_in_iff.mpr (by decide)) dX8_lay_66 ?_
              refine lv_topi (fun x_72 ex_72 => ?_)
              obtain rfl : j2 = x_72 := ex_72.symm
              refine lv_iadd hx hb dX8_lay_67 ?_
              refine lv_lload_n hx hb dX8_lay_68 rfl (lv_at hl 2 rfl) ?_
              refine va_last hx hb hK hP hD hS 0 1 rfl rfl (vp_in_iff.mpr (by have hx9 := k_addg (a := 600) (b := j2) (by decide) (by omega); simp only [Int32.reduceToInt] at hx9; omega)) dX8_lay_69 (fun H locs hP hD hS => ?_)
              have hP : va_P D vwCl [(mI, .inl (cL, 1200, .inr (.inl (vp_updL fI (600 + j2).toNatClampNeg v)))), (mJ, .inl (cI, 4, .inl (k4i j0 j1 j2 j3))), (m0, .inr (8, [.ref mH, .int aM, .long aC, .int mM, .long mQ, .int oV, .int pL, .int lI, .int sW, .int dP, .int sT, .long aT, .int cH, .int iW, .ref mI, .ref mJ, .ref mS, .ref mD, .int iH, .int aE, .int mN, .long sZ, .ref mX, .int tS, .int tA, .int tW, .ref mA, .ref mB, .ref mW, .ref mL, .int lS]))] H := hP
              have hD : va_D A [(mI, .inl (cL, 1200, .inr (.inl (vp_updL fI (600 + j2).toNatClampNeg v)))), (mJ, .inl (cI, 4, .inl (k4i j0 j1 j2 j3))), (m0, .inr (8, [.ref mH, .int aM, .long aC, .int mM, .long mQ, .int oV, .int pL, .int lI, .int sW, .int dP, .int sT, .long aT, .int cH, .int iW, .ref mI, .ref mJ, .ref mS, .ref mD, .int iH, .int aE, .int mN, .long sZ, .ref mX, .int tS, .int tA, .int tW, .ref mA, .ref mB, .ref mW, .ref mL, .int lS]))] := hD
              refine lv_aload_n hx hb dX8_lay_70 rfl (lv_at hl 0 rfl) ?_
              refine va_get (D := D) (ci := 8) (v := .ref mJ) (C := RX8) (T := TX8) (N := 31) hx hb hts iX8_lay_X8 hown hK hP 2 rfl rfl 15 (by decide) (hts (.fieldLink RX8 17 "TapeCalculatorModel" "items" "[I") (List.mem_of_getElem? (i := 4) rfl)) (fun _ h9 => h9) rfl dX8_lay_71 ?_
              refine lv_iload_n hx hb dX8_lay_74 rfl (lv_at hl 1 rfl) ?_
              refine lv_dup2_11 hx hb dX8_lay_75 rfl rfl ?_
              refine va_iald hx hb hK hP 1 0 rfl rfl (vp_in_iff.mpr (by decide)) dX8_lay_76 ?_
              refine lv_topi (fun x_73 ex_73 => ?_)
              obtain rfl : j2 = x_73 := ex_73.symm
              refine lv_iconst (v := 1) hx hb dX8_lay_77 (by decide) ?_
              refine lv_iadd hx hb dX8_lay_78 ?_
              refine va_iast hx hb hK hP hD hS 1 0 rfl rfl (vp_in_iff.mpr (by decide)) dX8_lay_79 (fun H locs hP hD hS => ?_)
              rw [k4i_2] at hP hD
              have hP : va_P D vwCl [(mI, .inl (cL, 1200, .inr (.inl (vp_updL fI (600 + j2).toNatClampNeg v)))), (mJ, .inl (cI, 4, .inl (k4i j0 j1 (j2 + 1) j3))), (m0, .inr (8, [.ref mH, .int aM, .long aC, .int mM, .long mQ, .int oV, .int pL, .int lI, .int sW, .int dP, .int sT, .long aT, .int cH, .int iW, .ref mI, .ref mJ, .ref mS, .ref mD, .int iH, .int aE, .int mN, .long sZ, .ref mX, .int tS, .int tA, .int tW, .ref mA, .ref mB, .ref mW, .ref mL, .int lS]))] H := hP
              have hD : va_D A [(mI, .inl (cL, 1200, .inr (.inl (vp_updL fI (600 + j2).toNatClampNeg v)))), (mJ, .inl (cI, 4, .inl (k4i j0 j1 (j2 + 1) j3))), (m0, .inr (8, [.ref mH, .int aM, .long aC, .int mM, .long mQ, .int oV, .int pL, .int lI, .int sW, .int dP, .int sT, .long aT, .int cH, .int iW, .ref mI, .ref mJ, .ref mS, .ref mD, .int iH, .int aE, .int mN, .long sZ, .ref mX, .int tS, .int tA, .int tW, .ref mA, .ref mB, .ref mW, .ref mL, .int lS]))] := hD
              refine lv_aload_n hx hb dX8_lay_80 rfl (lv_at hl 0 rfl) ?_
              refine va_get (D := D) (ci := 8) (v := .ref mJ) (C := RX8) (T := TX8) (N := 31) hx hb hts iX8_lay_X8 hown hK hP 2 rfl rfl 15 (by decide) (hts (.fieldLink RX8 17 "TapeCalculatorModel" "items" "[I") (List.mem_of_getElem? (i := 4) rfl)) (fun _ h9 => h9) rfl dX8_lay_81 ?_
              refine lv_iload_n hx hb dX8_lay_84 rfl (lv_at hl 1 rfl) ?_
              refine va_iald hx hb hK hP 1 0 rfl rfl (vp_in_iff.mpr (by decide)) dX8_lay_85 ?_
              refine lv_topi (fun x_74 ex_74 => ?_)
              obtain rfl : (j2 + 1) = x_74 := ex_74.symm
              refine kIret (u := ((vp_updL fI (600 + j2).toNatClampNeg v), j0, j1, (j2 + 1), j3)) hx hb hr rfl hlocks hS dX8_lay_86 ?_ (hP.sub [2, 0, 1] rfl) (hD.sub [2, 0, 1] (by decide) rfl)
              try dsimp only
              repeat' (with_reducible apply And.intro)
              all_goals first | with_reducible assumption | ((try simp only [jT_, jP_, jD_, jC_, jB_, jW_, Int32.reduceToInt, Int64.reduceToInt, true_or, or_true, true_and, and_true]) <;> omega)
            · have t_46_69 := c_46_69
              try simp only [kb_eq0, kb_ne0, lg_cmp_lt, lg_cmp_le, lg_cmp_gt, lg_cmp_ge, lg_cmp_eq] at t_46_69
              try simp only [Int32.lt_iff_toInt_lt, Int32.le_iff_toInt_le, ← Int32.toInt_inj, Int64.lt_iff_toInt_lt, Int64.le_iff_toInt_le, ← Int64.toInt_inj, Int32.toInt_toInt64, Int32.reduceToInt, Int64.reduceToInt] at t_46_69
              refine lv_bipush (v := (-2)) hx hb dX8_lay_49 (by decide) ?_
              refine kIret (u := (fI, j0, j1, j2, j3)) hx hb hr rfl hlocks hS dX8_lay_51 ?_ (hP.sub [2, 0, 1] rfl) (hD.sub [2, 0, 1] (by decide) rfl)
              try dsimp only
              repeat' (with_reducible apply And.intro)
              all_goals first | with_reducible assumption | ((try simp only [jT_, jP_, jD_, jC_, jB_, jW_, Int32.reduceToInt, Int64.reduceToInt, true_or, or_true, true_and, and_true]) <;> omega)
          · have t_32_67 := c_32_67
            try simp only [kb_eq0, kb_ne0, lg_cmp_lt, lg_cmp_le, lg_cmp_gt, lg_cmp_ge, lg_cmp_eq] at t_32_67
            try simp only [Int32.lt_iff_toInt_lt, Int32.le_iff_toInt_le, ← Int32.toInt_inj, Int64.lt_iff_toInt_lt, Int64.le_iff_toInt_le, ← Int64.toInt_inj, Int32.toInt_toInt64, Int32.reduceToInt, Int64.reduceToInt] at t_32_67
            refine lv_iconst (v := (-1)) hx hb dX8_lay_35 (by decide) ?_
            refine kIret (u := (fI, j0, j1, j2, j3)) hx hb hr rfl hlocks hS dX8_lay_36 ?_ (hP.sub [2, 0, 1] rfl) (hD.sub [2, 0, 1] (by decide) rfl)
            try dsimp only
            repeat' (with_reducible apply And.intro)
            all_goals first | with_reducible assumption | ((try simp only [jT_, jP_, jD_, jC_, jB_, jW_, Int32.reduceToInt, Int64.reduceToInt, true_or, or_true, true_and, and_true]) <;> omega)
  · have hu3 : 0 ≤ s3.toInt ∧ s3.toInt ≤ j3.toInt ∧ j3.toInt ≤ 300 := ht3
    have hs1 := k_addg (a := j3) (b := 1) (by omega) (by decide)
    simp only [Int32.reduceToInt] at hs1
    refine lv_aload_n hx hb dX8_lay_0 rfl (lv_at hl 0 rfl) ?_
    refine lv_iload_n hx hb dX8_lay_1 rfl (lv_at hl 1 rfl) ?_
    refine kCallI (wr := [(mI, .inl (cL, 1200, .inr (.inl fI))), (mJ, .inl (cI, 4, .inl (k4i j0 j1 j2 j3)))]) (va_runV (As := [.int 3]) (rest := []) ⟨hx, hb, hml, hown, hts⟩ (q_isTape l D cI cL cB cZ cT _ m0 mH mI mJ mS mD mX mA mB mW mL aM aC mM mQ oV pL lI sW dP sT aT cH iW iH aE mN sZ tS tA tW lS 3) (cwV 1 hts gX8_lay_X8_isTape rfl rfl rfl (by decide +kernel) ⟨Nat.le_of_ble_eq_true rfl, Nat.le_of_ble_eq_true rfl⟩) (kPreV hG hP hD [0] rfl (by decide) 0 8 rfl rfl rfl) rfl rfl hl.1 rfl (lv_room (Nat.le_of_ble_eq_true rfl)) dX8_lay_2 ⟨Nat.le_of_ble_eq_true rfl, Nat.le_of_ble_eq_true rfl⟩) hA hP hD hS [0] [1, 2] rfl rfl (by decide) (by decide) (fun r_75 u_r_75 H locs wr_75 hP hD hS => ?_)
    have hP : va_P D vwCl [(mI, .inl (cL, 1200, .inr (.inl fI))), (mJ, .inl (cI, 4, .inl (k4i j0 j1 j2 j3))), (m0, .inr (8, [.ref mH, .int aM, .long aC, .int mM, .long mQ, .int oV, .int pL, .int lI, .int sW, .int dP, .int sT, .long aT, .int cH, .int iW, .ref mI, .ref mJ, .ref mS, .ref mD, .int iH, .int aE, .int mN, .long sZ, .ref mX, .int tS, .int tA, .int tW, .ref mA, .ref mB, .ref mW, .ref mL, .int lS]))] H := hP
    have hD : va_D A [(mI, .inl (cL, 1200, .inr (.inl fI))), (mJ, .inl (cI, 4, .inl (k4i j0 j1 j2 j3))), (m0, .inr (8, [.ref mH, .int aM, .long aC, .int mM, .long mQ, .int oV, .int pL, .int lI, .int sW, .int dP, .int sT, .long aT, .int cH, .int iW, .ref mI, .ref mJ, .ref mS, .ref mD, .int iH, .int aE, .int mN, .long sZ, .ref mX, .int tS, .int tA, .int tW, .ref mA, .ref mB, .ref mW, .ref mL, .int lS]))] := hD
    try dsimp only at wr_75
    subst wr_75
    refine lv_if_eq (tgt := 35) hx hb dX8_lay_5 (by decide) (fun c_5_75 => ?_) (fun c_5_75 => ?_)
    · have t_5_75 := c_5_75
      try simp only [kb_eq0, kb_ne0, lg_cmp_lt, lg_cmp_le, lg_cmp_gt, lg_cmp_ge, lg_cmp_eq] at t_5_75
      try simp only [Int32.lt_iff_toInt_lt, Int32.le_iff_toInt_le, ← Int32.toInt_inj, Int64.lt_iff_toInt_lt, Int64.le_iff_toInt_le, ← Int64.toInt_inj, Int32.toInt_toInt64, Int32.reduceToInt, Int64.reduceToInt] at t_5_75
      omega
    · have t_5_75 := c_5_75
      try simp only [kb_eq0, kb_ne0, lg_cmp_lt, lg_cmp_le, lg_cmp_gt, lg_cmp_ge, lg_cmp_eq] at t_5_75
      try simp only [Int32.lt_iff_toInt_lt, Int32.le_iff_toInt_le, ← Int32.toInt_inj, Int64.lt_iff_toInt_lt, Int64.le_iff_toInt_le, ← Int64.toInt_inj, Int32.toInt_toInt64, Int32.reduceToInt, Int64.reduceToInt] at t_5_75
      refine lv_lload_n hx hb dX8_lay_8 rfl (lv_at hl 2 rfl) ?_
      refine lv_lconst (v := 0) hx hb dX8_lay_9 (by decide) ?_
      refine lv_ldc2 (v := 68719476735) hx hb hown (hts (.constantLong RX8 109 (68719476735)) (List.mem_of_getElem? (i := 1) rfl)) dX8_lay_10 ?_
      refine kCallI (wr := [(mI, .inl (cL, 1200, .inr (.inl fI))), (mJ, .inl (cI, 4, .inl (k4i j0 j1 j2 j3))), (m0, .inr (8, [.ref mH, .int aM, .long aC, .int mM, .long mQ, .int oV, .int pL, .int lI, .int sW, .int dP, .int sT, .long aT, .int cH, .int iW, .ref mI, .ref mJ, .ref mS, .ref mD, .int iH, .int aE, .int mN, .long sZ, .ref mX, .int tS, .int tA, .int tW, .ref mA, .ref mB, .ref mW, .ref mL, .int lS]))]) (va_runS (As := [.long v, .long 0, .long 68719476735]) (rest := []) ⟨hx, hb, hml, hown, hts⟩ (q_in l D cI cL cB cZ cT _ v 0 68719476735) (va_cwS 3 hts gX8_lay_X8_in rfl rfl rfl (by decide +kernel) ⟨Nat.le_of_ble_eq_true rfl, Nat.le_of_ble_eq_true rfl⟩) (kPreS hG hP hD [] rfl (by decide)) rfl rfl hl.1 rfl (lv_room (Nat.le_of_ble_eq_true rfl)) dX8_lay_13 ⟨Nat.le_of_ble_eq_true rfl, Nat.le_of_ble_eq_true rfl⟩) hA hP hD hS [] [0, 1, 2] rfl rfl (by decide) (by decide) (fun r_77 u_r_77 H locs wr_77 hP hD hS => ?_)
      have hP : va_P D vwCl [(mI, .inl (cL, 1200, .inr (.inl fI))), (mJ, .inl (cI, 4, .inl (k4i j0 j1 j2 j3))), (m0, .inr (8, [.ref mH, .int aM, .long aC, .int mM, .long mQ, .int oV, .int pL, .int lI, .int sW, .int dP, .int sT, .long aT, .int cH, .int iW, .ref mI, .ref mJ, .ref mS, .ref mD, .int iH, .int aE, .int mN, .long sZ, .ref mX, .int tS, .int tA, .int tW, .ref mA, .ref mB, .ref mW, .ref mL, .int lS]))] H := hP
      have hD : va_D A [(mI, .inl (cL, 1200, .inr (.inl fI))), (mJ, .inl (cI, 4, .inl (k4i j0 j1 j2 j3))), (m0, .inr (8, [.ref mH, .int aM, .long aC, .int mM, .long mQ, .int oV, .int pL, .int lI, .int sW, .int dP, .int sT, .long aT, .int cH, .int iW, .ref mI, .ref mJ, .ref mS, .ref mD, .int iH, .int aE, .int mN, .long sZ, .ref mX, .int tS, .int tA, .int tW, .ref mA, .ref mB, .ref mW, .ref mL, .int lS]))] := hD
      try dsimp only at wr_77
      subst wr_77
      refine lv_if_ne (tgt := 37) hx hb dX8_lay_16 (by decide) (fun c_16_77 => ?_) (fun c_16_77 => ?_)
      · have t_16_77 := c_16_77
        try simp only [kb_eq0, kb_ne0, lg_cmp_lt, lg_cmp_le, lg_cmp_gt, lg_cmp_ge, lg_cmp_eq] at t_16_77
        try simp only [Int32.lt_iff_toInt_lt, Int32.le_iff_toInt_le, ← Int32.toInt_inj, Int64.lt_iff_toInt_lt, Int64.le_iff_toInt_le, ← Int64.toInt_inj, Int32.toInt_toInt64, Int32.reduceToInt, Int64.reduceToInt] at t_16_77
        refine lv_aload_n hx hb dX8_lay_37 rfl (lv_at hl 0 rfl) ?_
        refine va_get (D := D) (ci := 8) (v := .ref mJ) (C := RX8) (T := TX8) (N := 31) hx hb hts iX8_lay_X8 hown hK hP 2 rfl rfl 15 (by decide) (hts (.fieldLink RX8 17 "TapeCalculatorModel" "items" "[I") (List.mem_of_getElem? (i := 4) rfl)) (fun _ h9 => h9) rfl dX8_lay_38 ?_
        refine lv_iload_n hx hb dX8_lay_41 rfl (lv_at hl 1 rfl) ?_
        refine va_iald hx hb hK hP 1 0 rfl rfl (vp_in_iff.mpr (by decide)) dX8_lay_42 ?_
        refine lv_topi (fun x_79 ex_79 => ?_)
        obtain rfl : j3 = x_79 := ex_79.symm
        refine lv_sipush (v := 300) hx hb dX8_lay_43 (by decide) ?_
        refine lv_icmp_ne (tgt := 52) hx hb dX8_lay_46 (by decide) (fun c_46_79 => ?_) (fun c_46_79 => ?_)
        · have t_46_79 := c_46_79
          try simp only [kb_eq0, kb_ne0, lg_cmp_lt, lg_cmp_le, lg_cmp_gt, lg_cmp_ge, lg_cmp_eq] at t_46_79
          try simp only [Int32.lt_iff_toInt_lt, Int32.le_iff_toInt_le, ← Int32.toInt_inj, Int64.lt_iff_toInt_lt, Int64.le_iff_toInt_le, ← Int64.toInt_inj, Int32.toInt_toInt64, Int32.reduceToInt, Int64.reduceToInt] at t_46_79
          refine lv_aload_n hx hb dX8_lay_52 rfl (lv_at hl 0 rfl) ?_
          refine va_get (D := D) (ci := 8) (v := .ref mI) (C := RX8) (T := TX8) (N := 31) hx hb hts iX8_lay_X8 hown hK hP 2 rfl rfl 14 (by decide) (hts (.fieldLink RX8 13 "TapeCalculatorModel" "item" "[J") (List.mem_of_getElem? (i := 5) rfl)) (fun _ h9 => h9) rfl dX8_lay_53 ?_
          refine lv_sipush (v := 300) hx hb dX8_lay_56 (by decide) ?_
          refine lv_iload_n hx hb dX8_lay_59 rfl (lv_at hl 1 rfl) ?_
          refine lv_imul hx hb dX8_lay_60 ?_
          refine lv_topi (fun x_81 ex_81 => ?_)
          obtain rfl : x_81 = 900 := ex_81.trans (by decide)
          refine lv_aload_n hx hb dX8_lay_61 rfl (lv_at hl 0 rfl) ?_
          refine va_get (D := D) (ci := 8) (v := .ref mJ) (C := RX8) (T := TX8) (N := 31) hx hb hts iX8_lay_X8 hown hK hP 2 rfl rfl 15 (by decide) (hts (.fieldLink RX8 17 "TapeCalculatorModel" "items" "[I") (List.mem_of_getElem? (i := 4) rfl)) (fun _ h9 => h9) rfl dX8_lay_62 ?_
          refine lv_iload_n hx hb dX8_lay_65 rfl (lv_at hl 1 rfl) ?_
          refine va_iald hx hb hK hP 1 0 rfl rfl (vp_in_iff.mpr (by decide)) dX8_lay_66 ?_
          refine lv_topi (fun x_82 ex_82 => ?_)
          obtain rfl : j3 = x_82 := ex_82.symm
          refine lv_iadd hx hb dX8_lay_67 ?_
          refine lv_lload_n hx hb dX8_lay_68 rfl (lv_at hl 2 rfl) ?_
          refine va_last hx hb hK hP hD hS 0 1 rfl rfl (vp_in_iff.mpr (by have hx9 := k_addg (a := 900) (b := j3) (by decide) (by omega); simp only [Int32.reduceToInt] at hx9; omega)) dX8_lay_69 (fun H locs hP hD hS => ?_)
          have hP : va_P D vwCl [(mI, .inl (cL, 1200, .inr (.inl (vp_updL fI (900 + j3).toNatClampNeg v)))), (mJ, .inl (cI, 4, .inl (k4i j0 j1 j2 j3))), (m0, .inr (8, [.ref mH, .int aM, .long aC, .int mM, .long mQ, .int oV, .int pL, .int lI, .int sW, .int dP, .int sT, .long aT, .int cH, .int iW, .ref mI, .ref mJ, .ref mS, .ref mD, .int iH, .int aE, .int mN, .long sZ, .ref mX, .int tS, .int tA, .int tW, .ref mA, .ref mB, .ref mW, .ref mL, .int lS]))] H := hP
          have hD : va_D A [(mI, .inl (cL, 1200, .inr (.inl (vp_updL fI (900 + j3).toNatClampNeg v)))), (mJ, .inl (cI, 4, .inl (k4i j0 j1 j2 j3))), (m0, .inr (8, [.ref mH, .int aM, .long aC, .int mM, .long mQ, .int oV, .int pL, .int lI, .int sW, .int dP, .int sT, .long aT, .int cH, .int iW, .ref mI, .ref mJ, .ref mS, .ref mD, .int iH, .int aE, .int mN, .long sZ, .ref mX, .int tS, .int tA, .int tW, .ref mA, .ref mB, .ref mW, .ref mL, .int lS]))] := hD
          refine lv_aload_n hx hb dX8_lay_70 rfl (lv_at hl 0 rfl) ?_
          refine va_get (D := D) (ci := 8) (v := .ref mJ) (C := RX8) (T := TX8) (N := 31) hx hb hts iX8_lay_X8 hown hK hP 2 rfl rfl 15 (by decide) (hts (.fieldLink RX8 17 "TapeCalculatorModel" "items" "[I") (List.mem_of_getElem? (i := 4) rfl)) (fun _ h9 => h9) rfl dX8_lay_71 ?_
          refine lv_iload_n hx hb dX8_lay_74 rfl (lv_at hl 1 rfl) ?_
          refine lv_dup2_11 hx hb dX8_lay_75 rfl rfl ?_
          refine va_iald hx hb hK hP 1 0 rfl rfl (vp_in_iff.mpr (by decide)) dX8_lay_76 ?_
          refine lv_topi (fun x_83 ex_83 => ?_)
          obtain rfl : j3 = x_83 := ex_83.symm
          refine lv_iconst (v := 1) hx hb dX8_lay_77 (by decide) ?_
          refine lv_iadd hx hb dX8_lay_78 ?_
          refine va_iast hx hb hK hP hD hS 1 0 rfl rfl (vp_in_iff.mpr (by decide)) dX8_lay_79 (fun H locs hP hD hS => ?_)
          rw [k4i_3] at hP hD
          have hP : va_P D vwCl [(mI, .inl (cL, 1200, .inr (.inl (vp_updL fI (900 + j3).toNatClampNeg v)))), (mJ, .inl (cI, 4, .inl (k4i j0 j1 j2 (j3 + 1)))), (m0, .inr (8, [.ref mH, .int aM, .long aC, .int mM, .long mQ, .int oV, .int pL, .int lI, .int sW, .int dP, .int sT, .long aT, .int cH, .int iW, .ref mI, .ref mJ, .ref mS, .ref mD, .int iH, .int aE, .int mN, .long sZ, .ref mX, .int tS, .int tA, .int tW, .ref mA, .ref mB, .ref mW, .ref mL, .int lS]))] H := hP
          have hD : va_D A [(mI, .inl (cL, 1200, .inr (.inl (vp_updL fI (900 + j3).toNatClampNeg v)))), (mJ, .inl (cI, 4, .inl (k4i j0 j1 j2 (j3 + 1)))), (m0, .inr (8, [.ref mH, .int aM, .long aC, .int mM, .long mQ, .int oV, .int pL, .int lI, .int sW, .int dP, .int sT, .long aT, .int cH, .int iW, .ref mI, .ref mJ, .ref mS, .ref mD, .int iH, .int aE, .int mN, .long sZ, .ref mX, .int tS, .int tA, .int tW, .ref mA, .ref mB, .ref mW, .ref mL, .int lS]))] := hD
          refine lv_aload_n hx hb dX8_lay_80 rfl (lv_at hl 0 rfl) ?_
          refine va_get (D := D) (ci := 8) (v := .ref mJ) (C := RX8) (T := TX8) (N := 31) hx hb hts iX8_lay_X8 hown hK hP 2 rfl rfl 15 (by decide) (hts (.fieldLink RX8 17 "TapeCalculatorModel" "items" "[I") (List.mem_of_getElem? (i := 4) rfl)) (fun _ h9 => h9) rfl dX8_lay_81 ?_
          refine lv_iload_n hx hb dX8_lay_84 rfl (lv_at hl 1 rfl) ?_
          refine va_iald hx hb hK hP 1 0 rfl rfl (vp_in_iff.mpr (by decide)) dX8_lay_85 ?_
          refine lv_topi (fun x_84 ex_84 => ?_)
          obtain rfl : (j3 + 1) = x_84 := ex_84.symm
          refine kIret (u := ((vp_updL fI (900 + j3).toNatClampNeg v), j0, j1, j2, (j3 + 1))) hx hb hr rfl hlocks hS dX8_lay_86 ?_ (hP.sub [2, 0, 1] rfl) (hD.sub [2, 0, 1] (by decide) rfl)
          try dsimp only
          repeat' (with_reducible apply And.intro)
          all_goals first | with_reducible assumption | ((try simp only [jT_, jP_, jD_, jC_, jB_, jW_, Int32.reduceToInt, Int64.reduceToInt, true_or, or_true, true_and, and_true]) <;> omega)
        · have t_46_79 := c_46_79
          try simp only [kb_eq0, kb_ne0, lg_cmp_lt, lg_cmp_le, lg_cmp_gt, lg_cmp_ge, lg_cmp_eq] at t_46_79
          try simp only [Int32.lt_iff_toInt_lt, Int32.le_iff_toInt_le, ← Int32.toInt_inj, Int64.lt_iff_toInt_lt, Int64.le_iff_toInt_le, ← Int64.toInt_inj, Int32.toInt_toInt64, Int32.reduceToInt, Int64.reduceToInt] at t_46_79
          refine lv_bipush (v := (-2)) hx hb dX8_lay_49 (by decide) ?_
          refine kIret (u := (fI, j0, j1, j2, j3)) hx hb hr rfl hlocks hS dX8_lay_51 ?_ (hP.sub [2, 0, 1] rfl) (hD.sub [2, 0, 1] (by decide) rfl)
          try dsimp only
          repeat' (with_reducible apply And.intro)
          all_goals first | with_reducible assumption | ((try simp only [jT_, jP_, jD_, jC_, jB_, jW_, Int32.reduceToInt, Int64.reduceToInt, true_or, or_true, true_and, and_true]) <;> omega)
      · have t_16_77 := c_16_77
        try simp only [kb_eq0, kb_ne0, lg_cmp_lt, lg_cmp_le, lg_cmp_gt, lg_cmp_ge, lg_cmp_eq] at t_16_77
        try simp only [Int32.lt_iff_toInt_lt, Int32.le_iff_toInt_le, ← Int32.toInt_inj, Int64.lt_iff_toInt_lt, Int64.le_iff_toInt_le, ← Int64.toInt_inj, Int32.toInt_toInt64, Int32.reduceToInt, Int64.reduceToInt] at t_16_77
        refine lv_lload_n hx hb dX8_lay_19 rfl (lv_at hl 2 rfl) ?_
        refine lv_ldc2 (v := (-2)) hx hb hown (hts (.constantLong RX8 111 (-2)) (List.mem_of_getElem? (i := 2) rfl)) dX8_lay_20 ?_
        refine W.lcmp hx hb dX8_lay_23 ?_
        refine lv_if_eq (tgt := 37) hx hb dX8_lay_24 (by decide) (fun c_24_84 => ?_) (fun c_24_84 => ?_)
        · have t_24_84 := c_24_84
          try simp only [kb_eq0, kb_ne0, lg_cmp_lt, lg_cmp_le, lg_cmp_gt, lg_cmp_ge, lg_cmp_eq] at t_24_84
          try simp only [Int32.lt_iff_toInt_lt, Int32.le_iff_toInt_le, ← Int32.toInt_inj, Int64.lt_iff_toInt_lt, Int64.le_iff_toInt_le, ← Int64.toInt_inj, Int32.toInt_toInt64, Int32.reduceToInt, Int64.reduceToInt] at t_24_84
          refine lv_aload_n hx hb dX8_lay_37 rfl (lv_at hl 0 rfl) ?_
          refine va_get (D := D) (ci := 8) (v := .ref mJ) (C := RX8) (T := TX8) (N := 31) hx hb hts iX8_lay_X8 hown hK hP 2 rfl rfl 15 (by decide) (hts (.fieldLink RX8 17 "TapeCalculatorModel" "items" "[I") (List.mem_of_getElem? (i := 4) rfl)) (fun _ h9 => h9) rfl dX8_lay_38 ?_
          refine lv_iload_n hx hb dX8_lay_41 rfl (lv_at hl 1 rfl) ?_
          refine va_iald hx hb hK hP 1 0 rfl rfl (vp_in_iff.mpr (by decide)) dX8_lay_42 ?_
          refine lv_topi (fun x_86 ex_86 => ?_)
          obtain rfl : j3 = x_86 := ex_86.symm
          refine lv_sipush (v := 300) hx hb dX8_lay_43 (by decide) ?_
          refine lv_icmp_ne (tgt := 52) hx hb dX8_lay_46 (by decide) (fun c_46_86 => ?_) (fun c_46_86 => ?_)
          · have t_46_86 := c_46_86
            try simp only [kb_eq0, kb_ne0, lg_cmp_lt, lg_cmp_le, lg_cmp_gt, lg_cmp_ge, lg_cmp_eq] at t_46_86
            try simp only [Int32.lt_iff_toInt_lt, Int32.le_iff_toInt_le, ← Int32.toInt_inj, Int64.lt_iff_toInt_lt, Int64.le_iff_toInt_le, ← Int64.toInt_inj, Int32.toInt_toInt64, Int32.reduceToInt, Int64.reduceToInt] at t_46_86
            refine lv_aload_n hx hb dX8_lay_52 rfl (lv_at hl 0 rfl) ?_
            refine va_get (D := D) (ci := 8) (v := .ref mI) (C := RX8) (T := TX8) (N := 31) hx hb hts iX8_lay_X8 hown hK hP 2 rfl rfl 14 (by decide) (hts (.fieldLink RX8 13 "TapeCalculatorModel" "item" "[J") (List.mem_of_getElem? (i := 5) rfl)) (fun _ h9 => h9) rfl dX8_lay_53 ?_
            refine lv_sipush (v := 300) hx hb dX8_lay_56 (by decide) ?_
            refine lv_iload_n hx hb dX8_lay_59 rfl (lv_at hl 1 rfl) ?_
            refine lv_imul hx hb dX8_lay_60 ?_
            refine lv_topi (fun x_88 ex_88 => ?_)
            obtain rfl : x_88 = 900 := ex_88.trans (by decide)
            refine lv_aload_n hx hb dX8_lay_61 rfl (lv_at hl 0 rfl) ?_
            refine va_get (D := D) (ci := 8) (v := .ref mJ) (C := RX8) (T := TX8) (N := 31) hx hb hts iX8_lay_X8 hown hK hP 2 rfl rfl 15 (by decide) (hts (.fieldLink RX8 17 "TapeCalculatorModel" "items" "[I") (List.mem_of_getElem? (i := 4) rfl)) (fun _ h9 => h9) rfl dX8_lay_62 ?_
            refine lv_iload_n hx hb dX8_lay_65 rfl (lv_at hl 1 rfl) ?_
            refine va_iald hx hb hK hP 1 0 rfl rfl (vp_in_iff.mpr (by decide)) dX8_lay_66 ?_
            refine lv_topi (fun x_89 ex_89 => ?_)
            obtain rfl : j3 = x_89 := ex_89.symm
            refine lv_iadd hx hb dX8_lay_67 ?_
            refine lv_lload_n hx hb dX8_lay_68 rfl (lv_at hl 2 rfl) ?_
            refine va_last hx hb hK hP hD hS 0 1 rfl rfl (vp_in_iff.mpr (by have hx9 := k_addg (a := 900) (b := j3) (by decide) (by omega); simp only [Int32.reduceToInt] at hx9; omega)) dX8_lay_69 (fun H locs hP hD hS => ?_)
            have hP : va_P D vwCl [(mI, .inl (cL, 1200, .inr (.inl (vp_updL fI (900 + j3).toNatClampNeg v)))), (mJ, .inl (cI, 4, .inl (k4i j0 j1 j2 j3))), (m0, .inr (8, [.ref mH, .int aM, .long aC, .int mM, .long mQ, .int oV, .int pL, .int lI, .int sW, .int dP, .int sT, .long aT, .int cH, .int iW, .ref mI, .ref mJ, .ref mS, .ref mD, .int iH, .int aE, .int mN, .long sZ, .ref mX, .int tS, .int tA, .int tW, .ref mA, .ref mB, .ref mW, .ref mL, .int lS]))] H := hP
            have hD : va_D A [(mI, .inl (cL, 1200, .inr (.inl (vp_updL fI (900 + j3).toNatClampNeg v)))), (mJ, .inl (cI, 4, .inl (k4i j0 j1 j2 j3))), (m0, .inr (8, [.ref mH, .int aM, .long aC, .int mM, .long mQ, .int oV, .int pL, .int lI, .int sW, .int dP, .int sT, .long aT, .int cH, .int iW, .ref mI, .ref mJ, .ref mS, .ref mD, .int iH, .int aE, .int mN, .long sZ, .ref mX, .int tS, .int tA, .int tW, .ref mA, .ref mB, .ref mW, .ref mL, .int lS]))] := hD
            refine lv_aload_n hx hb dX8_lay_70 rfl (lv_at hl 0 rfl) ?_
            refine va_get (D := D) (ci := 8) (v := .ref mJ) (C := RX8) (T := TX8) (N := 31) hx hb hts iX8_lay_X8 hown hK hP 2 rfl rfl 15 (by decide) (hts (.fieldLink RX8 17 "TapeCalculatorModel" "items" "[I") (List.mem_of_getElem? (i := 4) rfl)) (fun _ h9 => h9) rfl dX8_lay_71 ?_
            refine lv_iload_n hx hb dX8_lay_74 rfl (lv_at hl 1 rfl) ?_
            refine lv_dup2_11 hx hb dX8_lay_75 rfl rfl ?_
            refine va_iald hx hb hK hP 1 0 rfl rfl (vp_in_iff.mpr (by decide)) dX8_lay_76 ?_
            refine lv_topi (fun x_90 ex_90 => ?_)
            obtain rfl : j3 = x_90 := ex_90.symm
            refine lv_iconst (v := 1) hx hb dX8_lay_77 (by decide) ?_
            refine lv_iadd hx hb dX8_lay_78 ?_
            refine va_iast hx hb hK hP hD hS 1 0 rfl rfl (vp_in_iff.mpr (by decide)) dX8_lay_79 (fun H locs hP hD hS => ?_)
            rw [k4i_3] at hP hD
            have hP : va_P D vwCl [(mI, .inl (cL, 1200, .inr (.inl (vp_updL fI (900 + j3).toNatClampNeg v)))), (mJ, .inl (cI, 4, .inl (k4i j0 j1 j2 (j3 + 1)))), (m0, .inr (8, [.ref mH, .int aM, .long aC, .int mM, .long mQ, .int oV, .int pL, .int lI, .int sW, .int dP, .int sT, .long aT, .int cH, .int iW, .ref mI, .ref mJ, .ref mS, .ref mD, .int iH, .int aE, .int mN, .long sZ, .ref mX, .int tS, .int tA, .int tW, .ref mA, .ref mB, .ref mW, .ref mL, .int lS]))] H := hP
            have hD : va_D A [(mI, .inl (cL, 1200, .inr (.inl (vp_updL fI (900 + j3).toNatClampNeg v)))), (mJ, .inl (cI, 4, .inl (k4i j0 j1 j2 (j3 + 1)))), (m0, .inr (8, [.ref mH, .int aM, .long aC, .int mM, .long mQ, .int oV, .int pL, .int lI, .int sW, .int dP, .int sT, .long aT, .int cH, .int iW, .ref mI, .ref mJ, .ref mS, .ref mD, .int iH, .int aE, .int mN, .long sZ, .ref mX, .int tS, .int tA, .int tW, .ref mA, .ref mB, .ref mW, .ref mL, .int lS]))] := hD
            refine lv_aload_n hx hb dX8_lay_80 rfl (lv_at hl 0 rfl) ?_
            refine va_get (D := D) (ci := 8) (v := .ref mJ) (C := RX8) (T := TX8) (N := 31) hx hb hts iX8_lay_X8 hown hK hP 2 rfl rfl 15 (by decide) (hts (.fieldLink RX8 17 "TapeCalculatorModel" "items" "[I") (List.mem_of_getElem? (i := 4) rfl)) (fun _ h9 => h9) rfl dX8_lay_81 ?_
            refine lv_iload_n hx hb dX8_lay_84 rfl (lv_at hl 1 rfl) ?_
            refine va_iald hx hb hK hP 1 0 rfl rfl (vp_in_iff.mpr (by decide)) dX8_lay_85 ?_
            refine lv_topi (fun x_91 ex_91 => ?_)
            obtain rfl : (j3 + 1) = x_91 := ex_91.symm
            refine kIret (u := ((vp_updL fI (900 + j3).toNatClampNeg v), j0, j1, j2, (j3 + 1))) hx hb hr rfl hlocks hS dX8_lay_86 ?_ (hP.sub [2, 0, 1] rfl) (hD.sub [2, 0, 1] (by decide) rfl)
            try dsimp only
            repeat' (with_reducible apply And.intro)
            all_goals first | with_reducible assumption | ((try simp only [jT_, jP_, jD_, jC_, jB_, jW_, Int32.reduceToInt, Int64.reduceToInt, true_or, or_true, true_and, and_true]) <;> omega)
          · have t_46_86 := c_46_86
            try simp only [kb_eq0, kb_ne0, lg_cmp_lt, lg_cmp_le, lg_cmp_gt, lg_cmp_ge, lg_cmp_eq] at t_46_86
            try simp only [Int32.lt_iff_toInt_lt, Int32.le_iff_toInt_le, ← Int32.toInt_inj, Int64.lt_iff_toInt_lt, Int64.le_iff_toInt_le, ← Int64.toInt_inj, Int32.toInt_toInt64, Int32.reduceToInt, Int64.reduceToInt] at t_46_86
            refine lv_bipush (v := (-2)) hx hb dX8_lay_49 (by decide) ?_
            refine kIret (u := (fI, j0, j1, j2, j3)) hx hb hr rfl hlocks hS dX8_lay_51 ?_ (hP.sub [2, 0, 1] rfl) (hD.sub [2, 0, 1] (by decide) rfl)
            try dsimp only
            repeat' (with_reducible apply And.intro)
            all_goals first | with_reducible assumption | ((try simp only [jT_, jP_, jD_, jC_, jB_, jW_, Int32.reduceToInt, Int64.reduceToInt, true_or, or_true, true_and, and_true]) <;> omega)
        · have t_24_84 := c_24_84
          try simp only [kb_eq0, kb_ne0, lg_cmp_lt, lg_cmp_le, lg_cmp_gt, lg_cmp_ge, lg_cmp_eq] at t_24_84
          try simp only [Int32.lt_iff_toInt_lt, Int32.le_iff_toInt_le, ← Int32.toInt_inj, Int64.lt_iff_toInt_lt, Int64.le_iff_toInt_le, ← Int64.toInt_inj, Int32.toInt_toInt64, Int32.reduceToInt, Int64.reduceToInt] at t_24_84
          refine lv_lload_n hx hb dX8_lay_27 rfl (lv_at hl 2 rfl) ?_
          refine lv_ldc2 (v := (-3)) hx hb hown (hts (.constantLong RX8 113 (-3)) (List.mem_of_getElem? (i := 3) rfl)) dX8_lay_28 ?_
          refine W.lcmp hx hb dX8_lay_31 ?_
          refine lv_if_eq (tgt := 37) hx hb dX8_lay_32 (by decide) (fun c_32_91 => ?_) (fun c_32_91 => ?_)
          · have t_32_91 := c_32_91
            try simp only [kb_eq0, kb_ne0, lg_cmp_lt, lg_cmp_le, lg_cmp_gt, lg_cmp_ge, lg_cmp_eq] at t_32_91
            try simp only [Int32.lt_iff_toInt_lt, Int32.le_iff_toInt_le, ← Int32.toInt_inj, Int64.lt_iff_toInt_lt, Int64.le_iff_toInt_le, ← Int64.toInt_inj, Int32.toInt_toInt64, Int32.reduceToInt, Int64.reduceToInt] at t_32_91
            refine lv_aload_n hx hb dX8_lay_37 rfl (lv_at hl 0 rfl) ?_
            refine va_get (D := D) (ci := 8) (v := .ref mJ) (C := RX8) (T := TX8) (N := 31) hx hb hts iX8_lay_X8 hown hK hP 2 rfl rfl 15 (by decide) (hts (.fieldLink RX8 17 "TapeCalculatorModel" "items" "[I") (List.mem_of_getElem? (i := 4) rfl)) (fun _ h9 => h9) rfl dX8_lay_38 ?_
            refine lv_iload_n hx hb dX8_lay_41 rfl (lv_at hl 1 rfl) ?_
            refine va_iald hx hb hK hP 1 0 rfl rfl (vp_in_iff.mpr (by decide)) dX8_lay_42 ?_
            refine lv_topi (fun x_93 ex_93 => ?_)
            obtain rfl : j3 = x_93 := ex_93.symm
            refine lv_sipush (v := 300) hx hb dX8_lay_43 (by decide) ?_
            refine lv_icmp_ne (tgt := 52) hx hb dX8_lay_46 (by decide) (fun c_46_93 => ?_) (fun c_46_93 => ?_)
            · have t_46_93 := c_46_93
              try simp only [kb_eq0, kb_ne0, lg_cmp_lt, lg_cmp_le, lg_cmp_gt, lg_cmp_ge, lg_cmp_eq] at t_46_93
              try simp only [Int32.lt_iff_toInt_lt, Int32.le_iff_toInt_le, ← Int32.toInt_inj, Int64.lt_iff_toInt_lt, Int64.le_iff_toInt_le, ← Int64.toInt_inj, Int32.toInt_toInt64, Int32.reduceToInt, Int64.reduceToInt] at t_46_93
              refine lv_aload_n hx hb dX8_lay_52 rfl (lv_at hl 0 rfl) ?_
              refine va_get (D := D) (ci := 8) (v := .ref mI) (C := RX8) (T := TX8) (N := 31) hx hb hts iX8_lay_X8 hown hK hP 2 rfl rfl 14 (by decide) (hts (.fieldLink RX8 13 "TapeCalculatorModel" "item" "[J") (List.mem_of_getElem? (i := 5) rfl)) (fun _ h9 => h9) rfl dX8_lay_53 ?_
              refine lv_sipush (v := 300) hx hb dX8_lay_56 (by decide) ?_
              refine lv_iload_n hx hb dX8_lay_59 rfl (lv_at hl 1 rfl) ?_
              refine lv_imul hx hb dX8_lay_60 ?_
              refine lv_topi (fun x_95 ex_95 => ?_)
              obtain rfl : x_95 = 900 := ex_95.trans (by decide)
              refine lv_aload_n hx hb dX8_lay_61 rfl (lv_at hl 0 rfl) ?_
              refine va_get (D := D) (ci := 8) (v := .ref mJ) (C := RX8) (T := TX8) (N := 31) hx hb hts iX8_lay_X8 hown hK hP 2 rfl rfl 15 (by decide) (hts (.fieldLink RX8 17 "TapeCalculatorModel" "items" "[I") (List.mem_of_getElem? (i := 4) rfl)) (fun _ h9 => h9) rfl dX8_lay_62 ?_
              refine lv_iload_n hx hb dX8_lay_65 rfl (lv_at hl 1 rfl) ?_
              refine va_iald hx hb hK hP 1 0 rfl rfl (vp_in_iff.mpr (by decide)) dX8_lay_66 ?_
              refine lv_topi (fun x_96 ex_96 => ?_)
              obtain rfl : j3 = x_96 := ex_96.symm
              refine lv_iadd hx hb dX8_lay_67 ?_
              refine lv_lload_n hx hb dX8_lay_68 rfl (lv_at hl 2 rfl) ?_
              refine va_last hx hb hK hP hD hS 0 1 rfl rfl (vp_in_iff.mpr (by have hx9 := k_addg (a := 900) (b := j3) (by decide) (by omega); simp only [Int32.reduceToInt] at hx9; omega)) dX8_lay_69 (fun H locs hP hD hS => ?_)
              have hP : va_P D vwCl [(mI, .inl (cL, 1200, .inr (.inl (vp_updL fI (900 + j3).toNatClampNeg v)))), (mJ, .inl (cI, 4, .inl (k4i j0 j1 j2 j3))), (m0, .inr (8, [.ref mH, .int aM, .long aC, .int mM, .long mQ, .int oV, .int pL, .int lI, .int sW, .int dP, .int sT, .long aT, .int cH, .int iW, .ref mI, .ref mJ, .ref mS, .ref mD, .int iH, .int aE, .int mN, .long sZ, .ref mX, .int tS, .int tA, .int tW, .ref mA, .ref mB, .ref mW, .ref mL, .int lS]))] H := hP
              have hD : va_D A [(mI, .inl (cL, 1200, .inr (.inl (vp_updL fI (900 + j3).toNatClampNeg v)))), (mJ, .inl (cI, 4, .inl (k4i j0 j1 j2 j3))), (m0, .inr (8, [.ref mH, .int aM, .long aC, .int mM, .long mQ, .int oV, .int pL, .int lI, .int sW, .int dP, .int sT, .long aT, .int cH, .int iW, .ref mI, .ref mJ, .ref mS, .ref mD, .int iH, .int aE, .int mN, .long sZ, .ref mX, .int tS, .int tA, .int tW, .ref mA, .ref mB, .ref mW, .ref mL, .int lS]))] := hD
              refine lv_aload_n hx hb dX8_lay_70 rfl (lv_at hl 0 rfl) ?_
              refine va_get (D := D) (ci := 8) (v := .ref mJ) (C := RX8) (T := TX8) (N := 31) hx hb hts iX8_lay_X8 hown hK hP 2 rfl rfl 15 (by decide) (hts (.fieldLink RX8 17 "TapeCalculatorModel" "items" "[I") (List.mem_of_getElem? (i := 4) rfl)) (fun _ h9 => h9) rfl dX8_lay_71 ?_
              refine lv_iload_n hx hb dX8_lay_74 rfl (lv_at hl 1 rfl) ?_
              refine lv_dup2_11 hx hb dX8_lay_75 rfl rfl ?_
              refine va_iald hx hb hK hP 1 0 rfl rfl (vp_in_iff.mpr (by decide)) dX8_lay_76 ?_
              refine lv_topi (fun x_97 ex_97 => ?_)
              obtain rfl : j3 = x_97 := ex_97.symm
              refine lv_iconst (v := 1) hx hb dX8_lay_77 (by decide) ?_
              refine lv_iadd hx hb dX8_lay_78 ?_
              refine va_iast hx hb hK hP hD hS 1 0 rfl rfl (vp_in_iff.mpr (by decide)) dX8_lay_79 (fun H locs hP hD hS => ?_)
              rw [k4i_3] at hP hD
              have hP : va_P D vwCl [(mI, .inl (cL, 1200, .inr (.inl (vp_updL fI (900 + j3).toNatClampNeg v)))), (mJ, .inl (cI, 4, .inl (k4i j0 j1 j2 (j3 + 1)))), (m0, .inr (8, [.ref mH, .int aM, .long aC, .int mM, .long mQ, .int oV, .int pL, .int lI, .int sW, .int dP, .int sT, .long aT, .int cH, .int iW, .ref mI, .ref mJ, .ref mS, .ref mD, .int iH, .int aE, .int mN, .long sZ, .ref mX, .int tS, .int tA, .int tW, .ref mA, .ref mB, .ref mW, .ref mL, .int lS]))] H := hP
              have hD : va_D A [(mI, .inl (cL, 1200, .inr (.inl (vp_updL fI (900 + j3).toNatClampNeg v)))), (mJ, .inl (cI, 4, .inl (k4i j0 j1 j2 (j3 + 1)))), (m0, .inr (8, [.ref mH, .int aM, .long aC, .int mM, .long mQ, .int oV, .int pL, .int lI, .int sW, .int dP, .int sT, .long aT, .int cH, .int iW, .ref mI, .ref mJ, .ref mS, .ref mD, .int iH, .int aE, .int mN, .long sZ, .ref mX, .int tS, .int tA, .int tW, .ref mA, .ref mB, .ref mW, .ref mL, .int lS]))] := hD
              refine lv_aload_n hx hb dX8_lay_80 rfl (lv_at hl 0 rfl) ?_
              refine va_get (D := D) (ci := 8) (v := .ref mJ) (C := RX8) (T := TX8) (N := 31) hx hb hts iX8_lay_X8 hown hK hP 2 rfl rfl 15 (by decide) (hts (.fieldLink RX8 17 "TapeCalculatorModel" "items" "[I") (List.mem_of_getElem? (i := 4) rfl)) (fun _ h9 => h9) rfl dX8_lay_81 ?_
              refine lv_iload_n hx hb dX8_lay_84 rfl (lv_at hl 1 rfl) ?_
              refine va_iald hx hb hK hP 1 0 rfl rfl (vp_in_iff.mpr (by decide)) dX8_lay_85 ?_
              refine lv_topi (fun x_98 ex_98 => ?_)
              obtain rfl : (j3 + 1) = x_98 := ex_98.symm
              refine kIret (u := ((vp_updL fI (900 + j3).toNatClampNeg v), j0, j1, j2, (j3 + 1))) hx hb hr rfl hlocks hS dX8_lay_86 ?_ (hP.sub [2, 0, 1] rfl) (hD.sub [2, 0, 1] (by decide) rfl)
              try dsimp only
              repeat' (with_reducible apply And.intro)
              all_goals first | with_reducible assumption | ((try simp only [jT_, jP_, jD_, jC_, jB_, jW_, Int32.reduceToInt, Int64.reduceToInt, true_or, or_true, true_and, and_true]) <;> omega)
            · have t_46_93 := c_46_93
              try simp only [kb_eq0, kb_ne0, lg_cmp_lt, lg_cmp_le, lg_cmp_gt, lg_cmp_ge, lg_cmp_eq] at t_46_93
              try simp only [Int32.lt_iff_toInt_lt, Int32.le_iff_toInt_le, ← Int32.toInt_inj, Int64.lt_iff_toInt_lt, Int64.le_iff_toInt_le, ← Int64.toInt_inj, Int32.toInt_toInt64, Int32.reduceToInt, Int64.reduceToInt] at t_46_93
              refine lv_bipush (v := (-2)) hx hb dX8_lay_49 (by decide) ?_
              refine kIret (u := (fI, j0, j1, j2, j3)) hx hb hr rfl hlocks hS dX8_lay_51 ?_ (hP.sub [2, 0, 1] rfl) (hD.sub [2, 0, 1] (by decide) rfl)
              try dsimp only
              repeat' (with_reducible apply And.intro)
              all_goals first | with_reducible assumption | ((try simp only [jT_, jP_, jD_, jC_, jB_, jW_, Int32.reduceToInt, Int64.reduceToInt, true_or, or_true, true_and, and_true]) <;> omega)
          · have t_32_91 := c_32_91
            try simp only [kb_eq0, kb_ne0, lg_cmp_lt, lg_cmp_le, lg_cmp_gt, lg_cmp_ge, lg_cmp_eq] at t_32_91
            try simp only [Int32.lt_iff_toInt_lt, Int32.le_iff_toInt_le, ← Int32.toInt_inj, Int64.lt_iff_toInt_lt, Int64.le_iff_toInt_le, ← Int64.toInt_inj, Int32.toInt_toInt64, Int32.reduceToInt, Int64.reduceToInt] at t_32_91
            refine lv_iconst (v := (-1)) hx hb dX8_lay_35 (by decide) ?_
            refine kIret (u := (fI, j0, j1, j2, j3)) hx hb hr rfl hlocks hS dX8_lay_36 ?_ (hP.sub [2, 0, 1] rfl) (hD.sub [2, 0, 1] (by decide) rfl)
            try dsimp only
            repeat' (with_reducible apply And.intro)
            all_goals first | with_reducible assumption | ((try simp only [jT_, jP_, jD_, jC_, jB_, jW_, Int32.reduceToInt, Int64.reduceToInt, true_or, or_true, true_and, and_true]) <;> omega)
set_option maxRecDepth 100000 in
theorem iX8_stands_X8 : ∀ w ∈ wsX80, w ∈ wsX8_stands := fun w h => (goodIn_r (big := wsX8_stands) wsX80 [11, 12, 13, 14, 15, 16, 17, 18, 19, 20, 21, 22, 23, 24, 25, 26, 27, 28, 29, 30, 31, 32, 33, 34, 35, 36, 37, 38, 39, 40, 41] rfl (by decide +kernel) w h).1
set_option maxRecDepth 100000 in
set_option maxHeartbeats 4000000 in
theorem q_stands (l : Launch) (D : va_G) (cI cL cB cZ cT : ClassId) (sz : Nat) (m0 mH mI mJ mS mD mX mA mB mW mL : Nat) (aM : Int32) (aC : Int64) (mM : Int32) (mQ : Int64) (oV pL lI sW dP sT : Int32) (aT : Int64) (cH iW iH aE mN : Int32) (sZ : Int64) (tS tA tW lS : Int32) (s0 s1 s2 s3 : Int32) (t : Int32) : kM (S := Unit) l yX8_stands wsX8_stands ({ frames := 2, cells := 0, slots := 0, locals := 46 }) D (kT cI cL cB cZ cT) [.ref m0, .int t] [(m0, .inr (8, [.ref mH, .int aM, .long aC, .int mM, .long mQ, .int oV, .int pL, .int lI, .int sW, .int dP, .int sT, .long aT, .int cH, .int iW, .ref mI, .ref mJ, .ref mS, .ref mD, .int iH, .int aE, .int mN, .long sZ, .ref mX, .int tS, .int tA, .int tW, .ref mA, .ref mB, .ref mW, .ref mL, .int lS])), (mS, .inl (cI, 4, .inl (k4i s0 s1 s2 s3)))] sz eI (fun _ _ => True) (fun _ => [(m0, .inr (8, [.ref mH, .int aM, .long aC, .int mM, .long mQ, .int oV, .int pL, .int lI, .int sW, .int dP, .int sT, .long aT, .int cH, .int iW, .ref mI, .ref mJ, .ref mS, .ref mD, .int iH, .int aE, .int mN, .long sZ, .ref mX, .int tS, .int tA, .int tW, .ref mA, .ref mB, .ref mW, .ref mL, .int lS])), (mS, .inl (cI, 4, .inl (k4i s0 s1 s2 s3)))]) 0 0 := by
  refine kStart (cc := cX8_stands) (maxL := 2) (ret := (some .int)) (own := RX8) (by decide) rfl rfl (Nat.le_of_ble_eq_true rfl) ?_
  intro p e s m args below meth c A ls hx hb hr hml hown hts hlocks hnm hsz hA hG hP hD hS hl
  have hK := hG.1
  have hl : lv_has ls 2 [(0, .ref m0), (1, .int t)] := hl
  refine lv_aload_n hx hb dX8_stands_0 rfl (lv_at hl 0 rfl) ?_
  refine lv_iload_n hx hb dX8_stands_1 rfl (lv_at hl 1 rfl) ?_
  refine kCallI (wr := [(mS, .inl (cI, 4, .inl (k4i s0 s1 s2 s3)))]) (va_runV (As := [.int t]) (rest := []) ⟨hx, hb, hml, hown, hts⟩ (q_isTape l D cI cL cB cZ cT _ m0 mH mI mJ mS mD mX mA mB mW mL aM aC mM mQ oV pL lI sW dP sT aT cH iW iH aE mN sZ tS tA tW lS t) (cwV 1 hts gX8_stands_X8_isTape rfl rfl rfl (by decide +kernel) ⟨Nat.le_of_ble_eq_true rfl, Nat.le_of_ble_eq_true rfl⟩) (kPreV hG hP hD [0] rfl (by decide) 0 8 rfl rfl rfl) rfl rfl hl.1 rfl (lv_room (Nat.le_of_ble_eq_true rfl)) dX8_stands_2 ⟨Nat.le_of_ble_eq_true rfl, Nat.le_of_ble_eq_true rfl⟩) hA hP hD hS [0] [1] rfl rfl (by decide) (by decide) (fun r_1 u_r_1 H locs wr_1 hP hD hS => ?_)
  have hP : va_P D vwCl [(mS, .inl (cI, 4, .inl (k4i s0 s1 s2 s3))), (m0, .inr (8, [.ref mH, .int aM, .long aC, .int mM, .long mQ, .int oV, .int pL, .int lI, .int sW, .int dP, .int sT, .long aT, .int cH, .int iW, .ref mI, .ref mJ, .ref mS, .ref mD, .int iH, .int aE, .int mN, .long sZ, .ref mX, .int tS, .int tA, .int tW, .ref mA, .ref mB, .ref mW, .ref mL, .int lS]))] H := hP
  have hD : va_D A [(mS, .inl (cI, 4, .inl (k4i s0 s1 s2 s3))), (m0, .inr (8, [.ref mH, .int aM, .long aC, .int mM, .long mQ, .int oV, .int pL, .int lI, .int sW, .int dP, .int sT, .long aT, .int cH, .int iW, .ref mI, .ref mJ, .ref mS, .ref mD, .int iH, .int aE, .int mN, .long sZ, .ref mX, .int tS, .int tA, .int tW, .ref mA, .ref mB, .ref mW, .ref mL, .int lS]))] := hD
  try dsimp only at wr_1
  subst wr_1
  refine lv_if_eq (tgt := 17) hx hb dX8_stands_5 (by decide) (fun c_5_1 => ?_) (fun c_5_1 => ?_)
  · have t_5_1 := c_5_1
    try simp only [kb_eq0, kb_ne0, lg_cmp_lt, lg_cmp_le, lg_cmp_gt, lg_cmp_ge, lg_cmp_eq] at t_5_1
    try simp only [Int32.lt_iff_toInt_lt, Int32.le_iff_toInt_le, ← Int32.toInt_inj, Int64.lt_iff_toInt_lt, Int64.le_iff_toInt_le, ← Int64.toInt_inj, Int32.toInt_toInt64, Int32.reduceToInt, Int64.reduceToInt] at t_5_1
    refine lv_iconst (v := (-1)) hx hb dX8_stands_17 (by decide) ?_
    refine kIret (u := ()) hx hb hr rfl hlocks hS dX8_stands_18 ?_ (hP.sub [1, 0] rfl) (hD.sub [1, 0] (by decide) rfl)
    exact trivial
  · have t_5_1 := c_5_1
    try simp only [kb_eq0, kb_ne0, lg_cmp_lt, lg_cmp_le, lg_cmp_gt, lg_cmp_ge, lg_cmp_eq] at t_5_1
    try simp only [Int32.lt_iff_toInt_lt, Int32.le_iff_toInt_le, ← Int32.toInt_inj, Int64.lt_iff_toInt_lt, Int64.le_iff_toInt_le, ← Int64.toInt_inj, Int32.toInt_toInt64, Int32.reduceToInt, Int64.reduceToInt] at t_5_1
    refine lv_aload_n hx hb dX8_stands_8 rfl (lv_at hl 0 rfl) ?_
    refine va_get (D := D) (ci := 8) (v := .ref mS) (C := RX8) (T := TX8) (N := 31) hx hb hts iX8_stands_X8 hown hK hP 1 rfl rfl 16 (by decide) (hts (.fieldLink RX8 20 "TapeCalculatorModel" "stands" "[I") (List.mem_of_getElem? (i := 1) rfl)) (fun _ h9 => h9) rfl dX8_stands_9 ?_
    refine lv_iload_n hx hb dX8_stands_12 rfl (lv_at hl 1 rfl) ?_
    refine va_iald hx hb hK hP 0 0 rfl rfl (vp_in_iff.mpr (by omega)) dX8_stands_13 ?_
    refine lv_goto (tgt := 18) hx hb dX8_stands_14 (by decide) ?_
    refine kIret (u := ()) hx hb hr rfl hlocks hS dX8_stands_18 ?_ (hP.sub [1, 0] rfl) (hD.sub [1, 0] (by decide) rfl)
    exact trivial
set_option maxRecDepth 100000 in
theorem iX8_blank_X8 : ∀ w ∈ wsX80, w ∈ wsX8_blank := fun w h => (goodIn_r (big := wsX8_blank) wsX80 [14, 15, 16, 17, 18, 19, 20, 21, 22, 23, 24, 25, 26, 27, 28, 29, 30, 31, 32, 33, 34, 35, 36, 37, 38, 39, 40, 41, 42, 43, 44] rfl (by decide +kernel) w h).1
set_option maxRecDepth 100000 in
set_option maxHeartbeats 4000000 in
theorem q_blank (l : Launch) (D : va_G) (cI cL cB cZ cT : ClassId) (sz : Nat) (m0 mH mI mJ mS mD mX mA mB mW mL : Nat) (aM : Int32) (aC : Int64) (mM : Int32) (mQ : Int64) (oV pL lI sW dP sT : Int32) (aT : Int64) (cH iW iH aE mN : Int32) (sZ : Int64) (tS tA tW lS : Int32) (j0 j1 j2 j3 : Int32) (s0 s1 s2 s3 : Int32) (t : Int32) (ht0 : jT_ s0 j0) (ht1 : jT_ s1 j1) (ht2 : jT_ s2 j2) (ht3 : jT_ s3 j3) (hiw : jW_ iW cH) : kM (S := (Int32 × Int32 × Int32 × Int32 × Int32 × Int32 × Int32 × Int32 × Int32)) l yX8_blank wsX8_blank ({ frames := 2, cells := 0, slots := 0, locals := 46 }) D (kT cI cL cB cZ cT) [.ref m0, .int t] [(m0, .inr (8, [.ref mH, .int aM, .long aC, .int mM, .long mQ, .int oV, .int pL, .int lI, .int sW, .int dP, .int sT, .long aT, .int cH, .int iW, .ref mI, .ref mJ, .ref mS, .ref mD, .int iH, .int aE, .int mN, .long sZ, .ref mX, .int tS, .int tA, .int tW, .ref mA, .ref mB, .ref mW, .ref mL, .int lS])), (mJ, .inl (cI, 4, .inl (k4i j0 j1 j2 j3))), (mS, .inl (cI, 4, .inl (k4i s0 s1 s2 s3)))] sz eI (fun r u => jW_ (u.1) cH ∧ jT_ (u.2.2.2.2.2.1) (u.2.1) ∧ jT_ (u.2.2.2.2.2.2.1) (u.2.2.1) ∧ jT_ (u.2.2.2.2.2.2.2.1) (u.2.2.2.1) ∧ jT_ (u.2.2.2.2.2.2.2.2) (u.2.2.2.2.1)) (fun u => [(m0, .inr (8, [.ref mH, .int aM, .long aC, .int mM, .long mQ, .int oV, .int pL, .int lI, .int sW, .int dP, .int sT, .long aT, .int cH, .int u.1, .ref mI, .ref mJ, .ref mS, .ref mD, .int iH, .int aE, .int mN, .long sZ, .ref mX, .int tS, .int tA, .int tW, .ref mA, .ref mB, .ref mW, .ref mL, .int lS])), (mJ, .inl (cI, 4, .inl (k4i u.2.1 u.2.2.1 u.2.2.2.1 u.2.2.2.2.1))), (mS, .inl (cI, 4, .inl (k4i u.2.2.2.2.2.1 u.2.2.2.2.2.2.1 u.2.2.2.2.2.2.2.1 u.2.2.2.2.2.2.2.2)))]) 0 0 := by
  refine kStart (cc := cX8_blank) (maxL := 3) (ret := (some .int)) (own := RX8) (by decide) rfl rfl (Nat.le_of_ble_eq_true rfl) ?_
  intro p e s m args below meth c A ls hx hb hr hml hown hts hlocks hnm hsz hA hG hP hD hS hl
  have hK := hG.1
  have hl : lv_has ls 3 [(0, .ref m0), (1, .int t)] := hl
  rcases ksw_0_3 t with hsw | rfl | rfl | rfl | rfl
  · refine lv_aload_n hx hb dX8_blank_0 rfl (lv_at hl 0 rfl) ?_
    refine lv_iload_n hx hb dX8_blank_1 rfl (lv_at hl 1 rfl) ?_
    refine kCallI (wr := [(mJ, .inl (cI, 4, .inl (k4i j0 j1 j2 j3))), (mS, .inl (cI, 4, .inl (k4i s0 s1 s2 s3)))]) (va_runV (As := [.int t]) (rest := []) ⟨hx, hb, hml, hown, hts⟩ (q_isTape l D cI cL cB cZ cT _ m0 mH mI mJ mS mD mX mA mB mW mL aM aC mM mQ oV pL lI sW dP sT aT cH iW iH aE mN sZ tS tA tW lS t) (cwV 1 hts gX8_blank_X8_isTape rfl rfl rfl (by decide +kernel) ⟨Nat.le_of_ble_eq_true rfl, Nat.le_of_ble_eq_true rfl⟩) (kPreV hG hP hD [0] rfl (by decide) 0 8 rfl rfl rfl) rfl rfl hl.1 rfl (lv_room (Nat.le_of_ble_eq_true rfl)) dX8_blank_2 ⟨Nat.le_of_ble_eq_true rfl, Nat.le_of_ble_eq_true rfl⟩) hA hP hD hS [0] [1, 2] rfl rfl (by decide) (by decide) (fun r_1 u_r_1 H locs wr_1 hP hD hS => ?_)
    have hP : va_P D vwCl [(mJ, .inl (cI, 4, .inl (k4i j0 j1 j2 j3))), (mS, .inl (cI, 4, .inl (k4i s0 s1 s2 s3))), (m0, .inr (8, [.ref mH, .int aM, .long aC, .int mM, .long mQ, .int oV, .int pL, .int lI, .int sW, .int dP, .int sT, .long aT, .int cH, .int iW, .ref mI, .ref mJ, .ref mS, .ref mD, .int iH, .int aE, .int mN, .long sZ, .ref mX, .int tS, .int tA, .int tW, .ref mA, .ref mB, .ref mW, .ref mL, .int lS]))] H := hP
    have hD : va_D A [(mJ, .inl (cI, 4, .inl (k4i j0 j1 j2 j3))), (mS, .inl (cI, 4, .inl (k4i s0 s1 s2 s3))), (m0, .inr (8, [.ref mH, .int aM, .long aC, .int mM, .long mQ, .int oV, .int pL, .int lI, .int sW, .int dP, .int sT, .long aT, .int cH, .int iW, .ref mI, .ref mJ, .ref mS, .ref mD, .int iH, .int aE, .int mN, .long sZ, .ref mX, .int tS, .int tA, .int tW, .ref mA, .ref mB, .ref mW, .ref mL, .int lS]))] := hD
    try dsimp only at wr_1
    subst wr_1
    refine lv_if_ne (tgt := 10) hx hb dX8_blank_5 (by decide) (fun c_5_1 => ?_) (fun c_5_1 => ?_)
    · have t_5_1 := c_5_1
      try simp only [kb_eq0, kb_ne0, lg_cmp_lt, lg_cmp_le, lg_cmp_gt, lg_cmp_ge, lg_cmp_eq] at t_5_1
      try simp only [Int32.lt_iff_toInt_lt, Int32.le_iff_toInt_le, ← Int32.toInt_inj, Int64.lt_iff_toInt_lt, Int64.le_iff_toInt_le, ← Int64.toInt_inj, Int32.toInt_toInt64, Int32.reduceToInt, Int64.reduceToInt] at t_5_1
      omega
    · have t_5_1 := c_5_1
      try simp only [kb_eq0, kb_ne0, lg_cmp_lt, lg_cmp_le, lg_cmp_gt, lg_cmp_ge, lg_cmp_eq] at t_5_1
      try simp only [Int32.lt_iff_toInt_lt, Int32.le_iff_toInt_le, ← Int32.toInt_inj, Int64.lt_iff_toInt_lt, Int64.le_iff_toInt_le, ← Int64.toInt_inj, Int32.toInt_toInt64, Int32.reduceToInt, Int64.reduceToInt] at t_5_1
      refine lv_iconst (v := (-1)) hx hb dX8_blank_8 (by decide) ?_
      refine kIret (u := (iW, j0, j1, j2, j3, s0, s1, s2, s3)) hx hb hr rfl hlocks hS dX8_blank_9 ?_ (hP.sub [2, 0, 1] rfl) (hD.sub [2, 0, 1] (by decide) rfl)
      try dsimp only
      repeat' (with_reducible apply And.intro)
      all_goals first | with_reducible assumption | ((try simp only [jT_, jP_, jD_, jC_, jB_, jW_, Int32.reduceToInt, Int64.reduceToInt, true_or, or_true, true_and, and_true]) <;> omega)
  · have hiw0 : iW.toInt = 0 ∨ (iW.toInt = 1 ∧ 9 ≤ cH.toInt ∧ cH.toInt ≤ 12) := hiw
    refine lv_aload_n hx hb dX8_blank_0 rfl (lv_at hl 0 rfl) ?_
    refine lv_iload_n hx hb dX8_blank_1 rfl (lv_at hl 1 rfl) ?_
    refine kCallI (wr := [(mJ, .inl (cI, 4, .inl (k4i j0 j1 j2 j3))), (mS, .inl (cI, 4, .inl (k4i s0 s1 s2 s3)))]) (va_runV (As := [.int 0]) (rest := []) ⟨hx, hb, hml, hown, hts⟩ (q_isTape l D cI cL cB cZ cT _ m0 mH mI mJ mS mD mX mA mB mW mL aM aC mM mQ oV pL lI sW dP sT aT cH iW iH aE mN sZ tS tA tW lS 0) (cwV 1 hts gX8_blank_X8_isTape rfl rfl rfl (by decide +kernel) ⟨Nat.le_of_ble_eq_true rfl, Nat.le_of_ble_eq_true rfl⟩) (kPreV hG hP hD [0] rfl (by decide) 0 8 rfl rfl rfl) rfl rfl hl.1 rfl (lv_room (Nat.le_of_ble_eq_true rfl)) dX8_blank_2 ⟨Nat.le_of_ble_eq_true rfl, Nat.le_of_ble_eq_true rfl⟩) hA hP hD hS [0] [1, 2] rfl rfl (by decide) (by decide) (fun r_3 u_r_3 H locs wr_3 hP hD hS => ?_)
    have hP : va_P D vwCl [(mJ, .inl (cI, 4, .inl (k4i j0 j1 j2 j3))), (mS, .inl (cI, 4, .inl (k4i s0 s1 s2 s3))), (m0, .inr (8, [.ref mH, .int aM, .long aC, .int mM, .long mQ, .int oV, .int pL, .int lI, .int sW, .int dP, .int sT, .long aT, .int cH, .int iW, .ref mI, .ref mJ, .ref mS, .ref mD, .int iH, .int aE, .int mN, .long sZ, .ref mX, .int tS, .int tA, .int tW, .ref mA, .ref mB, .ref mW, .ref mL, .int lS]))] H := hP
    have hD : va_D A [(mJ, .inl (cI, 4, .inl (k4i j0 j1 j2 j3))), (mS, .inl (cI, 4, .inl (k4i s0 s1 s2 s3))), (m0, .inr (8, [.ref mH, .int aM, .long aC, .int mM, .long mQ, .int oV, .int pL, .int lI, .int sW, .int dP, .int sT, .long aT, .int cH, .int iW, .ref mI, .ref mJ, .ref mS, .ref mD, .int iH, .int aE, .int mN, .long sZ, .ref mX, .int tS, .int tA, .int tW, .ref mA, .ref mB, .ref mW, .ref mL, .int lS]))] := hD
    try dsimp only at wr_3
    subst wr_3
    refine lv_if_ne (tgt := 10) hx hb dX8_blank_5 (by decide) (fun c_5_3 => ?_) (fun c_5_3 => ?_)
    · have t_5_3 := c_5_3
      try simp only [kb_eq0, kb_ne0, lg_cmp_lt, lg_cmp_le, lg_cmp_gt, lg_cmp_ge, lg_cmp_eq] at t_5_3
      try simp only [Int32.lt_iff_toInt_lt, Int32.le_iff_toInt_le, ← Int32.toInt_inj, Int64.lt_iff_toInt_lt, Int64.le_iff_toInt_le, ← Int64.toInt_inj, Int32.toInt_toInt64, Int32.reduceToInt, Int64.reduceToInt] at t_5_3
      refine lv_aload_n hx hb dX8_blank_10 rfl (lv_at hl 0 rfl) ?_
      refine va_get (D := D) (ci := 8) (v := .ref mJ) (C := RX8) (T := TX8) (N := 31) hx hb hts iX8_blank_X8 hown hK hP 2 rfl rfl 15 (by decide) (hts (.fieldLink RX8 17 "TapeCalculatorModel" "items" "[I") (List.mem_of_getElem? (i := 1) rfl)) (fun _ h9 => h9) rfl dX8_blank_11 ?_
      refine lv_iload_n hx hb dX8_blank_14 rfl (lv_at hl 1 rfl) ?_
      refine va_iald hx hb hK hP 0 0 rfl rfl (vp_in_iff.mpr (by decide)) dX8_blank_15 ?_
      refine lv_topi (fun x_5 ex_5 => ?_)
      obtain rfl : j0 = x_5 := ex_5.symm
      refine lv_istore_n (lv' := [(2, .int j0), (0, .ref m0), (1, .int 0)]) hx hb dX8_blank_16 rfl hl (by decide) rfl (fun ls hl => ?_)
      refine lv_aload_n hx hb dX8_blank_17 rfl (lv_at hl 1 rfl) ?_
      refine va_get (D := D) (ci := 8) (v := .ref mJ) (C := RX8) (T := TX8) (N := 31) hx hb hts iX8_blank_X8 hown hK hP 2 rfl rfl 15 (by decide) (hts (.fieldLink RX8 17 "TapeCalculatorModel" "items" "[I") (List.mem_of_getElem? (i := 1) rfl)) (fun _ h9 => h9) rfl dX8_blank_18 ?_
      refine lv_iload_n hx hb dX8_blank_21 rfl (lv_at hl 2 rfl) ?_
      refine lv_iconst (v := 0) hx hb dX8_blank_22 (by decide) ?_
      refine va_iast hx hb hK hP hD hS 0 0 rfl rfl (vp_in_iff.mpr (by decide)) dX8_blank_23 (fun H locs hP hD hS => ?_)
      rw [k4i_0] at hP hD
      have hP : va_P D vwCl [(mJ, .inl (cI, 4, .inl (k4i 0 j1 j2 j3))), (mS, .inl (cI, 4, .inl (k4i s0 s1 s2 s3))), (m0, .inr (8, [.ref mH, .int aM, .long aC, .int mM, .long mQ, .int oV, .int pL, .int lI, .int sW, .int dP, .int sT, .long aT, .int cH, .int iW, .ref mI, .ref mJ, .ref mS, .ref mD, .int iH, .int aE, .int mN, .long sZ, .ref mX, .int tS, .int tA, .int tW, .ref mA, .ref mB, .ref mW, .ref mL, .int lS]))] H := hP
      have hD : va_D A [(mJ, .inl (cI, 4, .inl (k4i 0 j1 j2 j3))), (mS, .inl (cI, 4, .inl (k4i s0 s1 s2 s3))), (m0, .inr (8, [.ref mH, .int aM, .long aC, .int mM, .long mQ, .int oV, .int pL, .int lI, .int sW, .int dP, .int sT, .long aT, .int cH, .int iW, .ref mI, .ref mJ, .ref mS, .ref mD, .int iH, .int aE, .int mN, .long sZ, .ref mX, .int tS, .int tA, .int tW, .ref mA, .ref mB, .ref mW, .ref mL, .int lS]))] := hD
      refine lv_aload_n hx hb dX8_blank_24 rfl (lv_at hl 1 rfl) ?_
      refine va_get (D := D) (ci := 8) (v := .ref mS) (C := RX8) (T := TX8) (N := 31) hx hb hts iX8_blank_X8 hown hK hP 2 rfl rfl 16 (by decide) (hts (.fieldLink RX8 20 "TapeCalculatorModel" "stands" "[I") (List.mem_of_getElem? (i := 2) rfl)) (fun _ h9 => h9) rfl dX8_blank_25 ?_
      refine lv_iload_n hx hb dX8_blank_28 rfl (lv_at hl 2 rfl) ?_
      refine lv_iconst (v := 0) hx hb dX8_blank_29 (by decide) ?_
      refine va_iast hx hb hK hP hD hS 1 0 rfl rfl (vp_in_iff.mpr (by decide)) dX8_blank_30 (fun H locs hP hD hS => ?_)
      rw [k4i_0] at hP hD
      have hP : va_P D vwCl [(mJ, .inl (cI, 4, .inl (k4i 0 j1 j2 j3))), (mS, .inl (cI, 4, .inl (k4i 0 s1 s2 s3))), (m0, .inr (8, [.ref mH, .int aM, .long aC, .int mM, .long mQ, .int oV, .int pL, .int lI, .int sW, .int dP, .int sT, .long aT, .int cH, .int iW, .ref mI, .ref mJ, .ref mS, .ref mD, .int iH, .int aE, .int mN, .long sZ, .ref mX, .int tS, .int tA, .int tW, .ref mA, .ref mB, .ref mW, .ref mL, .int lS]))] H := hP
      have hD : va_D A [(mJ, .inl (cI, 4, .inl (k4i 0 j1 j2 j3))), (mS, .inl (cI, 4, .inl (k4i 0 s1 s2 s3))), (m0, .inr (8, [.ref mH, .int aM, .long aC, .int mM, .long mQ, .int oV, .int pL, .int lI, .int sW, .int dP, .int sT, .long aT, .int cH, .int iW, .ref mI, .ref mJ, .ref mS, .ref mD, .int iH, .int aE, .int mN, .long sZ, .ref mX, .int tS, .int tA, .int tW, .ref mA, .ref mB, .ref mW, .ref mL, .int lS]))] := hD
      refine lv_aload_n hx hb dX8_blank_31 rfl (lv_at hl 1 rfl) ?_
      refine lv_aload_n hx hb dX8_blank_32 rfl (lv_at hl 1 rfl) ?_
      refine va_get (D := D) (ci := 8) (v := .int iW) (C := RX8) (T := TX8) (N := 31) hx hb hts iX8_blank_X8 hown hK hP 2 rfl rfl 13 (by decide) (hts (.fieldLink RX8 115 "TapeCalculatorModel" "isWritten" "Z") (List.mem_of_getElem? (i := 3) rfl)) (fun _ h9 => h9) rfl dX8_blank_33 ?_
      refine lv_if_eq (tgt := 54) hx hb dX8_blank_36 (by decide) (fun c_36_5 => ?_) (fun c_36_5 => ?_)
      · have t_36_5 := c_36_5
        try simp only [kb_eq0, kb_ne0, lg_cmp_lt, lg_cmp_le, lg_cmp_gt, lg_cmp_ge, lg_cmp_eq] at t_36_5
        try simp only [Int32.lt_iff_toInt_lt, Int32.le_iff_toInt_le, ← Int32.toInt_inj, Int64.lt_iff_toInt_lt, Int64.le_iff_toInt_le, ← Int64.toInt_inj, Int32.toInt_toInt64, Int32.reduceToInt, Int64.reduceToInt] at t_36_5
        refine lv_iconst (v := 0) hx hb dX8_blank_54 (by decide) ?_
        refine va_put (D := D) (ci := 8) (v := .int 0) (ty := .boolean) (C := RX8) (T := TX8) (N := 31) hx hb hts iX8_blank_X8 tyX8 tyX8_ok nmX8 hown hK hP hD hS 2 rfl rfl 13 (by decide) (hts (.fieldLink RX8 115 "TapeCalculatorModel" "isWritten" "Z") (List.mem_of_getElem? (i := 3) rfl)) (fun _ h9 => h9) rfl (by decide +kernel) rfl rfl (Nat.le_of_ble_eq_true rfl) dX8_blank_55 (fun H locs hP hD hS => ?_)
        have hP : va_P D vwCl [(mJ, .inl (cI, 4, .inl (k4i 0 j1 j2 j3))), (mS, .inl (cI, 4, .inl (k4i 0 s1 s2 s3))), (m0, .inr (8, [.ref mH, .int aM, .long aC, .int mM, .long mQ, .int oV, .int pL, .int lI, .int sW, .int dP, .int sT, .long aT, .int cH, .int 0, .ref mI, .ref mJ, .ref mS, .ref mD, .int iH, .int aE, .int mN, .long sZ, .ref mX, .int tS, .int tA, .int tW, .ref mA, .ref mB, .ref mW, .ref mL, .int lS]))] H := hP
        have hD : va_D A [(mJ, .inl (cI, 4, .inl (k4i 0 j1 j2 j3))), (mS, .inl (cI, 4, .inl (k4i 0 s1 s2 s3))), (m0, .inr (8, [.ref mH, .int aM, .long aC, .int mM, .long mQ, .int oV, .int pL, .int lI, .int sW, .int dP, .int sT, .long aT, .int cH, .int 0, .ref mI, .ref mJ, .ref mS, .ref mD, .int iH, .int aE, .int mN, .long sZ, .ref mX, .int tS, .int tA, .int tW, .ref mA, .ref mB, .ref mW, .ref mL, .int lS]))] := hD
        refine lv_iload_n hx hb dX8_blank_58 rfl (lv_at hl 0 rfl) ?_
        refine kIret (u := (0, 0, j1, j2, j3, 0, s1, s2, s3)) hx hb hr rfl hlocks hS dX8_blank_59 ?_ (hP.sub [2, 0, 1] rfl) (hD.sub [2, 0, 1] (by decide) rfl)
        try dsimp only
        repeat' (with_reducible apply And.intro)
        all_goals first | with_reducible assumption | ((try simp only [jT_, jP_, jD_, jC_, jB_, jW_, Int32.reduceToInt, Int64.reduceToInt, true_or, or_true, true_and, and_true]) <;> omega)
      · have t_36_5 := c_36_5
        try simp only [kb_eq0, kb_ne0, lg_cmp_lt, lg_cmp_le, lg_cmp_gt, lg_cmp_ge, lg_cmp_eq] at t_36_5
        try simp only [Int32.lt_iff_toInt_lt, Int32.le_iff_toInt_le, ← Int32.toInt_inj, Int64.lt_iff_toInt_lt, Int64.le_iff_toInt_le, ← Int64.toInt_inj, Int32.toInt_toInt64, Int32.reduceToInt, Int64.reduceToInt] at t_36_5
        refine lv_aload_n hx hb dX8_blank_39 rfl (lv_at hl 1 rfl) ?_
        refine va_get (D := D) (ci := 8) (v := .int cH) (C := RX8) (T := TX8) (N := 31) hx hb hts iX8_blank_X8 hown hK hP 2 rfl rfl 12 (by decide) (hts (.fieldLink RX8 43 "TapeCalculatorModel" "chosen" "I") (List.mem_of_getElem? (i := 4) rfl)) (fun _ h9 => h9) rfl dX8_blank_40 ?_
        refine lv_bipush (v := 9) hx hb dX8_blank_43 (by decide) ?_
        refine lv_iload_n hx hb dX8_blank_45 rfl (lv_at hl 2 rfl) ?_
        refine lv_iadd hx hb dX8_blank_46 ?_
        refine lv_topi (fun x_7 ex_7 => ?_)
        obtain rfl : x_7 = 9 := ex_7.trans (by decide)
        refine lv_icmp_eq (tgt := 54) hx hb dX8_blank_47 (by decide) (fun c_47_7 => ?_) (fun c_47_7 => ?_)
        · have t_47_7 := c_47_7
          try simp only [kb_eq0, kb_ne0, lg_cmp_lt, lg_cmp_le, lg_cmp_gt, lg_cmp_ge, lg_cmp_eq] at t_47_7
          try simp only [Int32.lt_iff_toInt_lt, Int32.le_iff_toInt_le, ← Int32.toInt_inj, Int64.lt_iff_toInt_lt, Int64.le_iff_toInt_le, ← Int64.toInt_inj, Int32.toInt_toInt64, Int32.reduceToInt, Int64.reduceToInt] at t_47_7
          refine lv_iconst (v := 0) hx hb dX8_blank_54 (by decide) ?_
          refine va_put (D := D) (ci := 8) (v := .int 0) (ty := .boolean) (C := RX8) (T := TX8) (N := 31) hx hb hts iX8_blank_X8 tyX8 tyX8_ok nmX8 hown hK hP hD hS 2 rfl rfl 13 (by decide) (hts (.fieldLink RX8 115 "TapeCalculatorModel" "isWritten" "Z") (List.mem_of_getElem? (i := 3) rfl)) (fun _ h9 => h9) rfl (by decide +kernel) rfl rfl (Nat.le_of_ble_eq_true rfl) dX8_blank_55 (fun H locs hP hD hS => ?_)
          have hP : va_P D vwCl [(mJ, .inl (cI, 4, .inl (k4i 0 j1 j2 j3))), (mS, .inl (cI, 4, .inl (k4i 0 s1 s2 s3))), (m0, .inr (8, [.ref mH, .int aM, .long aC, .int mM, .long mQ, .int oV, .int pL, .int lI, .int sW, .int dP, .int sT, .long aT, .int cH, .int 0, .ref mI, .ref mJ, .ref mS, .ref mD, .int iH, .int aE, .int mN, .long sZ, .ref mX, .int tS, .int tA, .int tW, .ref mA, .ref mB, .ref mW, .ref mL, .int lS]))] H := hP
          have hD : va_D A [(mJ, .inl (cI, 4, .inl (k4i 0 j1 j2 j3))), (mS, .inl (cI, 4, .inl (k4i 0 s1 s2 s3))), (m0, .inr (8, [.ref mH, .int aM, .long aC, .int mM, .long mQ, .int oV, .int pL, .int lI, .int sW, .int dP, .int sT, .long aT, .int cH, .int 0, .ref mI, .ref mJ, .ref mS, .ref mD, .int iH, .int aE, .int mN, .long sZ, .ref mX, .int tS, .int tA, .int tW, .ref mA, .ref mB, .ref mW, .ref mL, .int lS]))] := hD
          refine lv_iload_n hx hb dX8_blank_58 rfl (lv_at hl 0 rfl) ?_
          refine kIret (u := (0, 0, j1, j2, j3, 0, s1, s2, s3)) hx hb hr rfl hlocks hS dX8_blank_59 ?_ (hP.sub [2, 0, 1] rfl) (hD.sub [2, 0, 1] (by decide) rfl)
          try dsimp only
          repeat' (with_reducible apply And.intro)
          all_goals first | with_reducible assumption | ((try simp only [jT_, jP_, jD_, jC_, jB_, jW_, Int32.reduceToInt, Int64.reduceToInt, true_or, or_true, true_and, and_true]) <;> omega)
        · have t_47_7 := c_47_7
          try simp only [kb_eq0, kb_ne0, lg_cmp_lt, lg_cmp_le, lg_cmp_gt, lg_cmp_ge, lg_cmp_eq] at t_47_7
          try simp only [Int32.lt_iff_toInt_lt, Int32.le_iff_toInt_le, ← Int32.toInt_inj, Int64.lt_iff_toInt_lt, Int64.le_iff_toInt_le, ← Int64.toInt_inj, Int32.toInt_toInt64, Int32.reduceToInt, Int64.reduceToInt] at t_47_7
          refine lv_iconst (v := 1) hx hb dX8_blank_50 (by decide) ?_
          refine lv_goto (tgt := 55) hx hb dX8_blank_51 (by decide) ?_
          refine va_put (D := D) (ci := 8) (v := .int 1) (ty := .boolean) (C := RX8) (T := TX8) (N := 31) hx hb hts iX8_blank_X8 tyX8 tyX8_ok nmX8 hown hK hP hD hS 2 rfl rfl 13 (by decide) (hts (.fieldLink RX8 115 "TapeCalculatorModel" "isWritten" "Z") (List.mem_of_getElem? (i := 3) rfl)) (fun _ h9 => h9) rfl (by decide +kernel) rfl rfl (Nat.le_of_ble_eq_true rfl) dX8_blank_55 (fun H locs hP hD hS => ?_)
          have hP : va_P D vwCl [(mJ, .inl (cI, 4, .inl (k4i 0 j1 j2 j3))), (mS, .inl (cI, 4, .inl (k4i 0 s1 s2 s3))), (m0, .inr (8, [.ref mH, .int aM, .long aC, .int mM, .long mQ, .int oV, .int pL, .int lI, .int sW, .int dP, .int sT, .long aT, .int cH, .int 1, .ref mI, .ref mJ, .ref mS, .ref mD, .int iH, .int aE, .int mN, .long sZ, .ref mX, .int tS, .int tA, .int tW, .ref mA, .ref mB, .ref mW, .ref mL, .int lS]))] H := hP
          have hD : va_D A [(mJ, .inl (cI, 4, .inl (k4i 0 j1 j2 j3))), (mS, .inl (cI, 4, .inl (k4i 0 s1 s2 s3))), (m0, .inr (8, [.ref mH, .int aM, .long aC, .int mM, .long mQ, .int oV, .int pL, .int lI, .int sW, .int dP, .int sT, .long aT, .int cH, .int 1, .ref mI, .ref mJ, .ref mS, .ref mD, .int iH, .int aE, .int mN, .long sZ, .ref mX, .int tS, .int tA, .int tW, .ref mA, .ref mB, .ref mW, .ref mL, .int lS]))] := hD
          refine lv_iload_n hx hb dX8_blank_58 rfl (lv_at hl 0 rfl) ?_
          refine kIret (u := (1, 0, j1, j2, j3, 0, s1, s2, s3)) hx hb hr rfl hlocks hS dX8_blank_59 ?_ (hP.sub [2, 0, 1] rfl) (hD.sub [2, 0, 1] (by decide) rfl)
          try dsimp only
          repeat' (with_reducible apply And.intro)
          all_goals first | with_reducible assumption | ((try simp only [jT_, jP_, jD_, jC_, jB_, jW_, Int32.reduceToInt, Int64.reduceToInt, true_or, or_true, true_and, and_true]) <;> omega)
    · have t_5_3 := c_5_3
      try simp only [kb_eq0, kb_ne0, lg_cmp_lt, lg_cmp_le, lg_cmp_gt, lg_cmp_ge, lg_cmp_eq] at t_5_3
      try simp only [Int32.lt_iff_toInt_lt, Int32.le_iff_toInt_le, ← Int32.toInt_inj, Int64.lt_iff_toInt_lt, Int64.le_iff_toInt_le, ← Int64.toInt_inj, Int32.toInt_toInt64, Int32.reduceToInt, Int64.reduceToInt] at t_5_3
      omega
  · have hiw0 : iW.toInt = 0 ∨ (iW.toInt = 1 ∧ 9 ≤ cH.toInt ∧ cH.toInt ≤ 12) := hiw
    refine lv_aload_n hx hb dX8_blank_0 rfl (lv_at hl 0 rfl) ?_
    refine lv_iload_n hx hb dX8_blank_1 rfl (lv_at hl 1 rfl) ?_
    refine kCallI (wr := [(mJ, .inl (cI, 4, .inl (k4i j0 j1 j2 j3))), (mS, .inl (cI, 4, .inl (k4i s0 s1 s2 s3)))]) (va_runV (As := [.int 1]) (rest := []) ⟨hx, hb, hml, hown, hts⟩ (q_isTape l D cI cL cB cZ cT _ m0 mH mI mJ mS mD mX mA mB mW mL aM aC mM mQ oV pL lI sW dP sT aT cH iW iH aE mN sZ tS tA tW lS 1) (cwV 1 hts gX8_blank_X8_isTape rfl rfl rfl (by decide +kernel) ⟨Nat.le_of_ble_eq_true rfl, Nat.le_of_ble_eq_true rfl⟩) (kPreV hG hP hD [0] rfl (by decide) 0 8 rfl rfl rfl) rfl rfl hl.1 rfl (lv_room (Nat.le_of_ble_eq_true rfl)) dX8_blank_2 ⟨Nat.le_of_ble_eq_true rfl, Nat.le_of_ble_eq_true rfl⟩) hA hP hD hS [0] [1, 2] rfl rfl (by decide) (by decide) (fun r_9 u_r_9 H locs wr_9 hP hD hS => ?_)
    have hP : va_P D vwCl [(mJ, .inl (cI, 4, .inl (k4i j0 j1 j2 j3))), (mS, .inl (cI, 4, .inl (k4i s0 s1 s2 s3))), (m0, .inr (8, [.ref mH, .int aM, .long aC, .int mM, .long mQ, .int oV, .int pL, .int lI, .int sW, .int dP, .int sT, .long aT, .int cH, .int iW, .ref mI, .ref mJ, .ref mS, .ref mD, .int iH, .int aE, .int mN, .long sZ, .ref mX, .int tS, .int tA, .int tW, .ref mA, .ref mB, .ref mW, .ref mL, .int lS]))] H := hP
    have hD : va_D A [(mJ, .inl (cI, 4, .inl (k4i j0 j1 j2 j3))), (mS, .inl (cI, 4, .inl (k4i s0 s1 s2 s3))), (m0, .inr (8, [.ref mH, .int aM, .long aC, .int mM, .long mQ, .int oV, .int pL, .int lI, .int sW, .int dP, .int sT, .long aT, .int cH, .int iW, .ref mI, .ref mJ, .ref mS, .ref mD, .int iH, .int aE, .int mN, .long sZ, .ref mX, .int tS, .int tA, .int tW, .ref mA, .ref mB, .ref mW, .ref mL, .int lS]))] := hD
    try dsimp only at wr_9
    subst wr_9
    refine lv_if_ne (tgt := 10) hx hb dX8_blank_5 (by decide) (fun c_5_9 => ?_) (fun c_5_9 => ?_)
    · have t_5_9 := c_5_9
      try simp only [kb_eq0, kb_ne0, lg_cmp_lt, lg_cmp_le, lg_cmp_gt, lg_cmp_ge, lg_cmp_eq] at t_5_9
      try simp only [Int32.lt_iff_toInt_lt, Int32.le_iff_toInt_le, ← Int32.toInt_inj, Int64.lt_iff_toInt_lt, Int64.le_iff_toInt_le, ← Int64.toInt_inj, Int32.toInt_toInt64, Int32.reduceToInt, Int64.reduceToInt] at t_5_9
      refine lv_aload_n hx hb dX8_blank_10 rfl (lv_at hl 0 rfl) ?_
      refine va_get (D := D) (ci := 8) (v := .ref mJ) (C := RX8) (T := TX8) (N := 31) hx hb hts iX8_blank_X8 hown hK hP 2 rfl rfl 15 (by decide) (hts (.fieldLink RX8 17 "TapeCalculatorModel" "items" "[I") (List.mem_of_getElem? (i := 1) rfl)) (fun _ h9 => h9) rfl dX8_blank_11 ?_
      refine lv_iload_n hx hb dX8_blank_14 rfl (lv_at hl 1 rfl) ?_
      refine va_iald hx hb hK hP 0 0 rfl rfl (vp_in_iff.mpr (by decide)) dX8_blank_15 ?_
      refine lv_topi (fun x_11 ex_11 => ?_)
      obtain rfl : j1 = x_11 := ex_11.symm
      refine lv_istore_n (lv' := [(2, .int j1), (0, .ref m0), (1, .int 1)]) hx hb dX8_blank_16 rfl hl (by decide) rfl (fun ls hl => ?_)
      refine lv_aload_n hx hb dX8_blank_17 rfl (lv_at hl 1 rfl) ?_
      refine va_get (D := D) (ci := 8) (v := .ref mJ) (C := RX8) (T := TX8) (N := 31) hx hb hts iX8_blank_X8 hown hK hP 2 rfl rfl 15 (by decide) (hts (.fieldLink RX8 17 "TapeCalculatorModel" "items" "[I") (List.mem_of_getElem? (i := 1) rfl)) (fun _ h9 => h9) rfl dX8_blank_18 ?_
      refine lv_iload_n hx hb dX8_blank_21 rfl (lv_at hl 2 rfl) ?_
      refine lv_iconst (v := 0) hx hb dX8_blank_22 (by decide) ?_
      refine va_iast hx hb hK hP hD hS 0 0 rfl rfl (vp_in_iff.mpr (by decide)) dX8_blank_23 (fun H locs hP hD hS => ?_)
      rw [k4i_1] at hP hD
      have hP : va_P D vwCl [(mJ, .inl (cI, 4, .inl (k4i j0 0 j2 j3))), (mS, .inl (cI, 4, .inl (k4i s0 s1 s2 s3))), (m0, .inr (8, [.ref mH, .int aM, .long aC, .int mM, .long mQ, .int oV, .int pL, .int lI, .int sW, .int dP, .int sT, .long aT, .int cH, .int iW, .ref mI, .ref mJ, .ref mS, .ref mD, .int iH, .int aE, .int mN, .long sZ, .ref mX, .int tS, .int tA, .int tW, .ref mA, .ref mB, .ref mW, .ref mL, .int lS]))] H := hP
      have hD : va_D A [(mJ, .inl (cI, 4, .inl (k4i j0 0 j2 j3))), (mS, .inl (cI, 4, .inl (k4i s0 s1 s2 s3))), (m0, .inr (8, [.ref mH, .int aM, .long aC, .int mM, .long mQ, .int oV, .int pL, .int lI, .int sW, .int dP, .int sT, .long aT, .int cH, .int iW, .ref mI, .ref mJ, .ref mS, .ref mD, .int iH, .int aE, .int mN, .long sZ, .ref mX, .int tS, .int tA, .int tW, .ref mA, .ref mB, .ref mW, .ref mL, .int lS]))] := hD
      refine lv_aload_n hx hb dX8_blank_24 rfl (lv_at hl 1 rfl) ?_
      refine va_get (D := D) (ci := 8) (v := .ref mS) (C := RX8) (T := TX8) (N := 31) hx hb hts iX8_blank_X8 hown hK hP 2 rfl rfl 16 (by decide) (hts (.fieldLink RX8 20 "TapeCalculatorModel" "stands" "[I") (List.mem_of_getElem? (i := 2) rfl)) (fun _ h9 => h9) rfl dX8_blank_25 ?_
      refine lv_iload_n hx hb dX8_blank_28 rfl (lv_at hl 2 rfl) ?_
      refine lv_iconst (v := 0) hx hb dX8_blank_29 (by decide) ?_
      refine va_iast hx hb hK hP hD hS 1 0 rfl rfl (vp_in_iff.mpr (by decide)) dX8_blank_30 (fun H locs hP hD hS => ?_)
      rw [k4i_1] at hP hD
      have hP : va_P D vwCl [(mJ, .inl (cI, 4, .inl (k4i j0 0 j2 j3))), (mS, .inl (cI, 4, .inl (k4i s0 0 s2 s3))), (m0, .inr (8, [.ref mH, .int aM, .long aC, .int mM, .long mQ, .int oV, .int pL, .int lI, .int sW, .int dP, .int sT, .long aT, .int cH, .int iW, .ref mI, .ref mJ, .ref mS, .ref mD, .int iH, .int aE, .int mN, .long sZ, .ref mX, .int tS, .int tA, .int tW, .ref mA, .ref mB, .ref mW, .ref mL, .int lS]))] H := hP
      have hD : va_D A [(mJ, .inl (cI, 4, .inl (k4i j0 0 j2 j3))), (mS, .inl (cI, 4, .inl (k4i s0 0 s2 s3))), (m0, .inr (8, [.ref mH, .int aM, .long aC, .int mM, .long mQ, .int oV, .int pL, .int lI, .int sW, .int dP, .int sT, .long aT, .int cH, .int iW, .ref mI, .ref mJ, .ref mS, .ref mD, .int iH, .int aE, .int mN, .long sZ, .ref mX, .int tS, .int tA, .int tW, .ref mA, .ref mB, .ref mW, .ref mL, .int lS]))] := hD
      refine lv_aload_n hx hb dX8_blank_31 rfl (lv_at hl 1 rfl) ?_
      refine lv_aload_n hx hb dX8_blank_32 rfl (lv_at hl 1 rfl) ?_
      refine va_get (D := D) (ci := 8) (v := .int iW) (C := RX8) (T := TX8) (N := 31) hx hb hts iX8_blank_X8 hown hK hP 2 rfl rfl 13 (by decide) (hts (.fieldLink RX8 115 "TapeCalculatorModel" "isWritten" "Z") (List.mem_of_getElem? (i := 3) rfl)) (fun _ h9 => h9) rfl dX8_blank_33 ?_
      refine lv_if_eq (tgt := 54) hx hb dX8_blank_36 (by decide) (fun c_36_11 => ?_) (fun c_36_11 => ?_)
      · have t_36_11 := c_36_11
        try simp only [kb_eq0, kb_ne0, lg_cmp_lt, lg_cmp_le, lg_cmp_gt, lg_cmp_ge, lg_cmp_eq] at t_36_11
        try simp only [Int32.lt_iff_toInt_lt, Int32.le_iff_toInt_le, ← Int32.toInt_inj, Int64.lt_iff_toInt_lt, Int64.le_iff_toInt_le, ← Int64.toInt_inj, Int32.toInt_toInt64, Int32.reduceToInt, Int64.reduceToInt] at t_36_11
        refine lv_iconst (v := 0) hx hb dX8_blank_54 (by decide) ?_
        refine va_put (D := D) (ci := 8) (v := .int 0) (ty := .boolean) (C := RX8) (T := TX8) (N := 31) hx hb hts iX8_blank_X8 tyX8 tyX8_ok nmX8 hown hK hP hD hS 2 rfl rfl 13 (by decide) (hts (.fieldLink RX8 115 "TapeCalculatorModel" "isWritten" "Z") (List.mem_of_getElem? (i := 3) rfl)) (fun _ h9 => h9) rfl (by decide +kernel) rfl rfl (Nat.le_of_ble_eq_true rfl) dX8_blank_55 (fun H locs hP hD hS => ?_)
        have hP : va_P D vwCl [(mJ, .inl (cI, 4, .inl (k4i j0 0 j2 j3))), (mS, .inl (cI, 4, .inl (k4i s0 0 s2 s3))), (m0, .inr (8, [.ref mH, .int aM, .long aC, .int mM, .long mQ, .int oV, .int pL, .int lI, .int sW, .int dP, .int sT, .long aT, .int cH, .int 0, .ref mI, .ref mJ, .ref mS, .ref mD, .int iH, .int aE, .int mN, .long sZ, .ref mX, .int tS, .int tA, .int tW, .ref mA, .ref mB, .ref mW, .ref mL, .int lS]))] H := hP
        have hD : va_D A [(mJ, .inl (cI, 4, .inl (k4i j0 0 j2 j3))), (mS, .inl (cI, 4, .inl (k4i s0 0 s2 s3))), (m0, .inr (8, [.ref mH, .int aM, .long aC, .int mM, .long mQ, .int oV, .int pL, .int lI, .int sW, .int dP, .int sT, .long aT, .int cH, .int 0, .ref mI, .ref mJ, .ref mS, .ref mD, .int iH, .int aE, .int mN, .long sZ, .ref mX, .int tS, .int tA, .int tW, .ref mA, .ref mB, .ref mW, .ref mL, .int lS]))] := hD
        refine lv_iload_n hx hb dX8_blank_58 rfl (lv_at hl 0 rfl) ?_
        refine kIret (u := (0, j0, 0, j2, j3, s0, 0, s2, s3)) hx hb hr rfl hlocks hS dX8_blank_59 ?_ (hP.sub [2, 0, 1] rfl) (hD.sub [2, 0, 1] (by decide) rfl)
        try dsimp only
        repeat' (with_reducible apply And.intro)
        all_goals first | with_reducible assumption | ((try simp only [jT_, jP_, jD_, jC_, jB_, jW_, Int32.reduceToInt, Int64.reduceToInt, true_or, or_true, true_and, and_true]) <;> omega)
      · have t_36_11 := c_36_11
        try simp only [kb_eq0, kb_ne0, lg_cmp_lt, lg_cmp_le, lg_cmp_gt, lg_cmp_ge, lg_cmp_eq] at t_36_11
        try simp only [Int32.lt_iff_toInt_lt, Int32.le_iff_toInt_le, ← Int32.toInt_inj, Int64.lt_iff_toInt_lt, Int64.le_iff_toInt_le, ← Int64.toInt_inj, Int32.toInt_toInt64, Int32.reduceToInt, Int64.reduceToInt] at t_36_11
        refine lv_aload_n hx hb dX8_blank_39 rfl (lv_at hl 1 rfl) ?_
        refine va_get (D := D) (ci := 8) (v := .int cH) (C := RX8) (T := TX8) (N := 31) hx hb hts iX8_blank_X8 hown hK hP 2 rfl rfl 12 (by decide) (hts (.fieldLink RX8 43 "TapeCalculatorModel" "chosen" "I") (List.mem_of_getElem? (i := 4) rfl)) (fun _ h9 => h9) rfl dX8_blank_40 ?_
        refine lv_bipush (v := 9) hx hb dX8_blank_43 (by decide) ?_
        refine lv_iload_n hx hb dX8_blank_45 rfl (lv_at hl 2 rfl) ?_
        refine lv_iadd hx hb dX8_blank_46 ?_
        refine lv_topi (fun x_13 ex_13 => ?_)
        obtain rfl : x_13 = 10 := ex_13.trans (by decide)
        refine lv_icmp_eq (tgt := 54) hx hb dX8_blank_47 (by decide) (fun c_47_13 => ?_) (fun c_47_13 => ?_)
        · have t_47_13 := c_47_13
          try simp only [kb_eq0, kb_ne0, lg_cmp_lt, lg_cmp_le, lg_cmp_gt, lg_cmp_ge, lg_cmp_eq] at t_47_13
          try simp only [Int32.lt_iff_toInt_lt, Int32.le_iff_toInt_le, ← Int32.toInt_inj, Int64.lt_iff_toInt_lt, Int64.le_iff_toInt_le, ← Int64.toInt_inj, Int32.toInt_toInt64, Int32.reduceToInt, Int64.reduceToInt] at t_47_13
          refine lv_iconst (v := 0) hx hb dX8_blank_54 (by decide) ?_
          refine va_put (D := D) (ci := 8) (v := .int 0) (ty := .boolean) (C := RX8) (T := TX8) (N := 31) hx hb hts iX8_blank_X8 tyX8 tyX8_ok nmX8 hown hK hP hD hS 2 rfl rfl 13 (by decide) (hts (.fieldLink RX8 115 "TapeCalculatorModel" "isWritten" "Z") (List.mem_of_getElem? (i := 3) rfl)) (fun _ h9 => h9) rfl (by decide +kernel) rfl rfl (Nat.le_of_ble_eq_true rfl) dX8_blank_55 (fun H locs hP hD hS => ?_)
          have hP : va_P D vwCl [(mJ, .inl (cI, 4, .inl (k4i j0 0 j2 j3))), (mS, .inl (cI, 4, .inl (k4i s0 0 s2 s3))), (m0, .inr (8, [.ref mH, .int aM, .long aC, .int mM, .long mQ, .int oV, .int pL, .int lI, .int sW, .int dP, .int sT, .long aT, .int cH, .int 0, .ref mI, .ref mJ, .ref mS, .ref mD, .int iH, .int aE, .int mN, .long sZ, .ref mX, .int tS, .int tA, .int tW, .ref mA, .ref mB, .ref mW, .ref mL, .int lS]))] H := hP
          have hD : va_D A [(mJ, .inl (cI, 4, .inl (k4i j0 0 j2 j3))), (mS, .inl (cI, 4, .inl (k4i s0 0 s2 s3))), (m0, .inr (8, [.ref mH, .int aM, .long aC, .int mM, .long mQ, .int oV, .int pL, .int lI, .int sW, .int dP, .int sT, .long aT, .int cH, .int 0, .ref mI, .ref mJ, .ref mS, .ref mD, .int iH, .int aE, .int mN, .long sZ, .ref mX, .int tS, .int tA, .int tW, .ref mA, .ref mB, .ref mW, .ref mL, .int lS]))] := hD
          refine lv_iload_n hx hb dX8_blank_58 rfl (lv_at hl 0 rfl) ?_
          refine kIret (u := (0, j0, 0, j2, j3, s0, 0, s2, s3)) hx hb hr rfl hlocks hS dX8_blank_59 ?_ (hP.sub [2, 0, 1] rfl) (hD.sub [2, 0, 1] (by decide) rfl)
          try dsimp only
          repeat' (with_reducible apply And.intro)
          all_goals first | with_reducible assumption | ((try simp only [jT_, jP_, jD_, jC_, jB_, jW_, Int32.reduceToInt, Int64.reduceToInt, true_or, or_true, true_and, and_true]) <;> omega)
        · have t_47_13 := c_47_13
          try simp only [kb_eq0, kb_ne0, lg_cmp_lt, lg_cmp_le, lg_cmp_gt, lg_cmp_ge, lg_cmp_eq] at t_47_13
          try simp only [Int32.lt_iff_toInt_lt, Int32.le_iff_toInt_le, ← Int32.toInt_inj, Int64.lt_iff_toInt_lt, Int64.le_iff_toInt_le, ← Int64.toInt_inj, Int32.toInt_toInt64, Int32.reduceToInt, Int64.reduceToInt] at t_47_13
          refine lv_iconst (v := 1) hx hb dX8_blank_50 (by decide) ?_
          refine lv_goto (tgt := 55) hx hb dX8_blank_51 (by decide) ?_
          refine va_put (D := D) (ci := 8) (v := .int 1) (ty := .boolean) (C := RX8) (T := TX8) (N := 31) hx hb hts iX8_blank_X8 tyX8 tyX8_ok nmX8 hown hK hP hD hS 2 rfl rfl 13 (by decide) (hts (.fieldLink RX8 115 "TapeCalculatorModel" "isWritten" "Z") (List.mem_of_getElem? (i := 3) rfl)) (fun _ h9 => h9) rfl (by decide +kernel) rfl rfl (Nat.le_of_ble_eq_true rfl) dX8_blank_55 (fun H locs hP hD hS => ?_)
          have hP : va_P D vwCl [(mJ, .inl (cI, 4, .inl (k4i j0 0 j2 j3))), (mS, .inl (cI, 4, .inl (k4i s0 0 s2 s3))), (m0, .inr (8, [.ref mH, .int aM, .long aC, .int mM, .long mQ, .int oV, .int pL, .int lI, .int sW, .int dP, .int sT, .long aT, .int cH, .int 1, .ref mI, .ref mJ, .ref mS, .ref mD, .int iH, .int aE, .int mN, .long sZ, .ref mX, .int tS, .int tA, .int tW, .ref mA, .ref mB, .ref mW, .ref mL, .int lS]))] H := hP
          have hD : va_D A [(mJ, .inl (cI, 4, .inl (k4i j0 0 j2 j3))), (mS, .inl (cI, 4, .inl (k4i s0 0 s2 s3))), (m0, .inr (8, [.ref mH, .int aM, .long aC, .int mM, .long mQ, .int oV, .int pL, .int lI, .int sW, .int dP, .int sT, .long aT, .int cH, .int 1, .ref mI, .ref mJ, .ref mS, .ref mD, .int iH, .int aE, .int mN, .long sZ, .ref mX, .int tS, .int tA, .int tW, .ref mA, .ref mB, .ref mW, .ref mL, .int lS]))] := hD
          refine lv_iload_n hx hb dX8_blank_58 rfl (lv_at hl 0 rfl) ?_
          refine kIret (u := (1, j0, 0, j2, j3, s0, 0, s2, s3)) hx hb hr rfl hlocks hS dX8_blank_59 ?_ (hP.sub [2, 0, 1] rfl) (hD.sub [2, 0, 1] (by decide) rfl)
          try dsimp only
          repeat' (with_reducible apply And.intro)
          all_goals first | with_reducible assumption | ((try simp only [jT_, jP_, jD_, jC_, jB_, jW_, Int32.reduceToInt, Int64.reduceToInt, true_or, or_true, true_and, and_true]) <;> omega)
    · have t_5_9 := c_5_9
      try simp only [kb_eq0, kb_ne0, lg_cmp_lt, lg_cmp_le, lg_cmp_gt, lg_cmp_ge, lg_cmp_eq] at t_5_9
      try simp only [Int32.lt_iff_toInt_lt, Int32.le_iff_toInt_le, ← Int32.toInt_inj, Int64.lt_iff_toInt_lt, Int64.le_iff_toInt_le, ← Int64.toInt_inj, Int32.toInt_toInt64, Int32.reduceToInt, Int64.reduceToInt] at t_5_9
      omega
  · have hiw0 : iW.toInt = 0 ∨ (iW.toInt = 1 ∧ 9 ≤ cH.toInt ∧ cH.toInt ≤ 12) := hiw
    refine lv_aload_n hx hb dX8_blank_0 rfl (lv_at hl 0 rfl) ?_
    refine lv_iload_n hx hb dX8_blank_1 rfl (lv_at hl 1 rfl) ?_
    refine kCallI (wr := [(mJ, .inl (cI, 4, .inl (k4i j0 j1 j2 j3))), (mS, .inl (cI, 4, .inl (k4i s0 s1 s2 s3)))]) (va_runV (As := [.int 2]) (rest := []) ⟨hx, hb, hml, hown, hts⟩ (q_isTape l D cI cL cB cZ cT _ m0 mH mI mJ mS mD mX mA mB mW mL aM aC mM mQ oV pL lI sW dP sT aT cH iW iH aE mN sZ tS tA tW lS 2) (cwV 1 hts gX8_blank_X8_isTape rfl rfl rfl (by decide +kernel) ⟨Nat.le_of_ble_eq_true rfl, Nat.le_of_ble_eq_true rfl⟩) (kPreV hG hP hD [0] rfl (by decide) 0 8 rfl rfl rfl) rfl rfl hl.1 rfl (lv_room (Nat.le_of_ble_eq_true rfl)) dX8_blank_2 ⟨Nat.le_of_ble_eq_true rfl, Nat.le_of_ble_eq_true rfl⟩) hA hP hD hS [0] [1, 2] rfl rfl (by decide) (by decide) (fun r_15 u_r_15 H locs wr_15 hP hD hS => ?_)
    have hP : va_P D vwCl [(mJ, .inl (cI, 4, .inl (k4i j0 j1 j2 j3))), (mS, .inl (cI, 4, .inl (k4i s0 s1 s2 s3))), (m0, .inr (8, [.ref mH, .int aM, .long aC, .int mM, .long mQ, .int oV, .int pL, .int lI, .int sW, .int dP, .int sT, .long aT, .int cH, .int iW, .ref mI, .ref mJ, .ref mS, .ref mD, .int iH, .int aE, .int mN, .long sZ, .ref mX, .int tS, .int tA, .int tW, .ref mA, .ref mB, .ref mW, .ref mL, .int lS]))] H := hP
    have hD : va_D A [(mJ, .inl (cI, 4, .inl (k4i j0 j1 j2 j3))), (mS, .inl (cI, 4, .inl (k4i s0 s1 s2 s3))), (m0, .inr (8, [.ref mH, .int aM, .long aC, .int mM, .long mQ, .int oV, .int pL, .int lI, .int sW, .int dP, .int sT, .long aT, .int cH, .int iW, .ref mI, .ref mJ, .ref mS, .ref mD, .int iH, .int aE, .int mN, .long sZ, .ref mX, .int tS, .int tA, .int tW, .ref mA, .ref mB, .ref mW, .ref mL, .int lS]))] := hD
    try dsimp only at wr_15
    subst wr_15
    refine lv_if_ne (tgt := 10) hx hb dX8_blank_5 (by decide) (fun c_5_15 => ?_) (fun c_5_15 => ?_)
    · have t_5_15 := c_5_15
      try simp only [kb_eq0, kb_ne0, lg_cmp_lt, lg_cmp_le, lg_cmp_gt, lg_cmp_ge, lg_cmp_eq] at t_5_15
      try simp only [Int32.lt_iff_toInt_lt, Int32.le_iff_toInt_le, ← Int32.toInt_inj, Int64.lt_iff_toInt_lt, Int64.le_iff_toInt_le, ← Int64.toInt_inj, Int32.toInt_toInt64, Int32.reduceToInt, Int64.reduceToInt] at t_5_15
      refine lv_aload_n hx hb dX8_blank_10 rfl (lv_at hl 0 rfl) ?_
      refine va_get (D := D) (ci := 8) (v := .ref mJ) (C := RX8) (T := TX8) (N := 31) hx hb hts iX8_blank_X8 hown hK hP 2 rfl rfl 15 (by decide) (hts (.fieldLink RX8 17 "TapeCalculatorModel" "items" "[I") (List.mem_of_getElem? (i := 1) rfl)) (fun _ h9 => h9) rfl dX8_blank_11 ?_
      refine lv_iload_n hx hb dX8_blank_14 rfl (lv_at hl 1 rfl) ?_
      refine va_iald hx hb hK hP 0 0 rfl rfl (vp_in_iff.mpr (by decide)) dX8_blank_15 ?_
      refine lv_topi (fun x_17 ex_17 => ?_)
      obtain rfl : j2 = x_17 := ex_17.symm
      refine lv_istore_n (lv' := [(2, .int j2), (0, .ref m0), (1, .int 2)]) hx hb dX8_blank_16 rfl hl (by decide) rfl (fun ls hl => ?_)
      refine lv_aload_n hx hb dX8_blank_17 rfl (lv_at hl 1 rfl) ?_
      refine va_get (D := D) (ci := 8) (v := .ref mJ) (C := RX8) (T := TX8) (N := 31) hx hb hts iX8_blank_X8 hown hK hP 2 rfl rfl 15 (by decide) (hts (.fieldLink RX8 17 "TapeCalculatorModel" "items" "[I") (List.mem_of_getElem? (i := 1) rfl)) (fun _ h9 => h9) rfl dX8_blank_18 ?_
      refine lv_iload_n hx hb dX8_blank_21 rfl (lv_at hl 2 rfl) ?_
      refine lv_iconst (v := 0) hx hb dX8_blank_22 (by decide) ?_
      refine va_iast hx hb hK hP hD hS 0 0 rfl rfl (vp_in_iff.mpr (by decide)) dX8_blank_23 (fun H locs hP hD hS => ?_)
      rw [k4i_2] at hP hD
      have hP : va_P D vwCl [(mJ, .inl (cI, 4, .inl (k4i j0 j1 0 j3))), (mS, .inl (cI, 4, .inl (k4i s0 s1 s2 s3))), (m0, .inr (8, [.ref mH, .int aM, .long aC, .int mM, .long mQ, .int oV, .int pL, .int lI, .int sW, .int dP, .int sT, .long aT, .int cH, .int iW, .ref mI, .ref mJ, .ref mS, .ref mD, .int iH, .int aE, .int mN, .long sZ, .ref mX, .int tS, .int tA, .int tW, .ref mA, .ref mB, .ref mW, .ref mL, .int lS]))] H := hP
      have hD : va_D A [(mJ, .inl (cI, 4, .inl (k4i j0 j1 0 j3))), (mS, .inl (cI, 4, .inl (k4i s0 s1 s2 s3))), (m0, .inr (8, [.ref mH, .int aM, .long aC, .int mM, .long mQ, .int oV, .int pL, .int lI, .int sW, .int dP, .int sT, .long aT, .int cH, .int iW, .ref mI, .ref mJ, .ref mS, .ref mD, .int iH, .int aE, .int mN, .long sZ, .ref mX, .int tS, .int tA, .int tW, .ref mA, .ref mB, .ref mW, .ref mL, .int lS]))] := hD
      refine lv_aload_n hx hb dX8_blank_24 rfl (lv_at hl 1 rfl) ?_
      refine va_get (D := D) (ci := 8) (v := .ref mS) (C := RX8) (T := TX8) (N := 31) hx hb hts iX8_blank_X8 hown hK hP 2 rfl rfl 16 (by decide) (hts (.fieldLink RX8 20 "TapeCalculatorModel" "stands" "[I") (List.mem_of_getElem? (i := 2) rfl)) (fun _ h9 => h9) rfl dX8_blank_25 ?_
      refine lv_iload_n hx hb dX8_blank_28 rfl (lv_at hl 2 rfl) ?_
      refine lv_iconst (v := 0) hx hb dX8_blank_29 (by decide) ?_
      refine va_iast hx hb hK hP hD hS 1 0 rfl rfl (vp_in_iff.mpr (by decide)) dX8_blank_30 (fun H locs hP hD hS => ?_)
      rw [k4i_2] at hP hD
      have hP : va_P D vwCl [(mJ, .inl (cI, 4, .inl (k4i j0 j1 0 j3))), (mS, .inl (cI, 4, .inl (k4i s0 s1 0 s3))), (m0, .inr (8, [.ref mH, .int aM, .long aC, .int mM, .long mQ, .int oV, .int pL, .int lI, .int sW, .int dP, .int sT, .long aT, .int cH, .int iW, .ref mI, .ref mJ, .ref mS, .ref mD, .int iH, .int aE, .int mN, .long sZ, .ref mX, .int tS, .int tA, .int tW, .ref mA, .ref mB, .ref mW, .ref mL, .int lS]))] H := hP
      have hD : va_D A [(mJ, .inl (cI, 4, .inl (k4i j0 j1 0 j3))), (mS, .inl (cI, 4, .inl (k4i s0 s1 0 s3))), (m0, .inr (8, [.ref mH, .int aM, .long aC, .int mM, .long mQ, .int oV, .int pL, .int lI, .int sW, .int dP, .int sT, .long aT, .int cH, .int iW, .ref mI, .ref mJ, .ref mS, .ref mD, .int iH, .int aE, .int mN, .long sZ, .ref mX, .int tS, .int tA, .int tW, .ref mA, .ref mB, .ref mW, .ref mL, .int lS]))] := hD
      refine lv_aload_n hx hb dX8_blank_31 rfl (lv_at hl 1 rfl) ?_
      refine lv_aload_n hx hb dX8_blank_32 rfl (lv_at hl 1 rfl) ?_
      refine va_get (D := D) (ci := 8) (v := .int iW) (C := RX8) (T := TX8) (N := 31) hx hb hts iX8_blank_X8 hown hK hP 2 rfl rfl 13 (by decide) (hts (.fieldLink RX8 115 "TapeCalculatorModel" "isWritten" "Z") (List.mem_of_getElem? (i := 3) rfl)) (fun _ h9 => h9) rfl dX8_blank_33 ?_
      refine lv_if_eq (tgt := 54) hx hb dX8_blank_36 (by decide) (fun c_36_17 => ?_) (fun c_36_17 => ?_)
      · have t_36_17 := c_36_17
        try simp only [kb_eq0, kb_ne0, lg_cmp_lt, lg_cmp_le, lg_cmp_gt, lg_cmp_ge, lg_cmp_eq] at t_36_17
        try simp only [Int32.lt_iff_toInt_lt, Int32.le_iff_toInt_le, ← Int32.toInt_inj, Int64.lt_iff_toInt_lt, Int64.le_iff_toInt_le, ← Int64.toInt_inj, Int32.toInt_toInt64, Int32.reduceToInt, Int64.reduceToInt] at t_36_17
        refine lv_iconst (v := 0) hx hb dX8_blank_54 (by decide) ?_
        refine va_put (D := D) (ci := 8) (v := .int 0) (ty := .boolean) (C := RX8) (T := TX8) (N := 31) hx hb hts iX8_blank_X8 tyX8 tyX8_ok nmX8 hown hK hP hD hS 2 rfl rfl 13 (by decide) (hts (.fieldLink RX8 115 "TapeCalculatorModel" "isWritten" "Z") (List.mem_of_getElem? (i := 3) rfl)) (fun _ h9 => h9) rfl (by decide +kernel) rfl rfl (Nat.le_of_ble_eq_true rfl) dX8_blank_55 (fun H locs hP hD hS => ?_)
        have hP : va_P D vwCl [(mJ, .inl (cI, 4, .inl (k4i j0 j1 0 j3))), (mS, .inl (cI, 4, .inl (k4i s0 s1 0 s3))), (m0, .inr (8, [.ref mH, .int aM, .long aC, .int mM, .long mQ, .int oV, .int pL, .int lI, .int sW, .int dP, .int sT, .long aT, .int cH, .int 0, .ref mI, .ref mJ, .ref mS, .ref mD, .int iH, .int aE, .int mN, .long sZ, .ref mX, .int tS, .int tA, .int tW, .ref mA, .ref mB, .ref mW, .ref mL, .int lS]))] H := hP
        have hD : va_D A [(mJ, .inl (cI, 4, .inl (k4i j0 j1 0 j3))), (mS, .inl (cI, 4, .inl (k4i s0 s1 0 s3))), (m0, .inr (8, [.ref mH, .int aM, .long aC, .int mM, .long mQ, .int oV, .int pL, .int lI, .int sW, .int dP, .int sT, .long aT, .int cH, .int 0, .ref mI, .ref mJ, .ref mS, .ref mD, .int iH, .int aE, .int mN, .long sZ, .ref mX, .int tS, .int tA, .int tW, .ref mA, .ref mB, .ref mW, .ref mL, .int lS]))] := hD
        refine lv_iload_n hx hb dX8_blank_58 rfl (lv_at hl 0 rfl) ?_
        refine kIret (u := (0, j0, j1, 0, j3, s0, s1, 0, s3)) hx hb hr rfl hlocks hS dX8_blank_59 ?_ (hP.sub [2, 0, 1] rfl) (hD.sub [2, 0, 1] (by decide) rfl)
        try dsimp only
        repeat' (with_reducible apply And.intro)
        all_goals first | with_reducible assumption | ((try simp only [jT_, jP_, jD_, jC_, jB_, jW_, Int32.reduceToInt, Int64.reduceToInt, true_or, or_true, true_and, and_true]) <;> omega)
      · have t_36_17 := c_36_17
        try simp only [kb_eq0, kb_ne0, lg_cmp_lt, lg_cmp_le, lg_cmp_gt, lg_cmp_ge, lg_cmp_eq] at t_36_17
        try simp only [Int32.lt_iff_toInt_lt, Int32.le_iff_toInt_le, ← Int32.toInt_inj, Int64.lt_iff_toInt_lt, Int64.le_iff_toInt_le, ← Int64.toInt_inj, Int32.toInt_toInt64, Int32.reduceToInt, Int64.reduceToInt] at t_36_17
        refine lv_aload_n hx hb dX8_blank_39 rfl (lv_at hl 1 rfl) ?_
        refine va_get (D := D) (ci := 8) (v := .int cH) (C := RX8) (T := TX8) (N := 31) hx hb hts iX8_blank_X8 hown hK hP 2 rfl rfl 12 (by decide) (hts (.fieldLink RX8 43 "TapeCalculatorModel" "chosen" "I") (List.mem_of_getElem? (i := 4) rfl)) (fun _ h9 => h9) rfl dX8_blank_40 ?_
        refine lv_bipush (v := 9) hx hb dX8_blank_43 (by decide) ?_
        refine lv_iload_n hx hb dX8_blank_45 rfl (lv_at hl 2 rfl) ?_
        refine lv_iadd hx hb dX8_blank_46 ?_
        refine lv_topi (fun x_19 ex_19 => ?_)
        obtain rfl : x_19 = 11 := ex_19.trans (by decide)
        refine lv_icmp_eq (tgt := 54) hx hb dX8_blank_47 (by decide) (fun c_47_19 => ?_) (fun c_47_19 => ?_)
        · have t_47_19 := c_47_19
          try simp only [kb_eq0, kb_ne0, lg_cmp_lt, lg_cmp_le, lg_cmp_gt, lg_cmp_ge, lg_cmp_eq] at t_47_19
          try simp only [Int32.lt_iff_toInt_lt, Int32.le_iff_toInt_le, ← Int32.toInt_inj, Int64.lt_iff_toInt_lt, Int64.le_iff_toInt_le, ← Int64.toInt_inj, Int32.toInt_toInt64, Int32.reduceToInt, Int64.reduceToInt] at t_47_19
          refine lv_iconst (v := 0) hx hb dX8_blank_54 (by decide) ?_
          refine va_put (D := D) (ci := 8) (v := .int 0) (ty := .boolean) (C := RX8) (T := TX8) (N := 31) hx hb hts iX8_blank_X8 tyX8 tyX8_ok nmX8 hown hK hP hD hS 2 rfl rfl 13 (by decide) (hts (.fieldLink RX8 115 "TapeCalculatorModel" "isWritten" "Z") (List.mem_of_getElem? (i := 3) rfl)) (fun _ h9 => h9) rfl (by decide +kernel) rfl rfl (Nat.le_of_ble_eq_true rfl) dX8_blank_55 (fun H locs hP hD hS => ?_)
          have hP : va_P D vwCl [(mJ, .inl (cI, 4, .inl (k4i j0 j1 0 j3))), (mS, .inl (cI, 4, .inl (k4i s0 s1 0 s3))), (m0, .inr (8, [.ref mH, .int aM, .long aC, .int mM, .long mQ, .int oV, .int pL, .int lI, .int sW, .int dP, .int sT, .long aT, .int cH, .int 0, .ref mI, .ref mJ, .ref mS, .ref mD, .int iH, .int aE, .int mN, .long sZ, .ref mX, .int tS, .int tA, .int tW, .ref mA, .ref mB, .ref mW, .ref mL, .int lS]))] H := hP
          have hD : va_D A [(mJ, .inl (cI, 4, .inl (k4i j0 j1 0 j3))), (mS, .inl (cI, 4, .inl (k4i s0 s1 0 s3))), (m0, .inr (8, [.ref mH, .int aM, .long aC, .int mM, .long mQ, .int oV, .int pL, .int lI, .int sW, .int dP, .int sT, .long aT, .int cH, .int 0, .ref mI, .ref mJ, .ref mS, .ref mD, .int iH, .int aE, .int mN, .long sZ, .ref mX, .int tS, .int tA, .int tW, .ref mA, .ref mB, .ref mW, .ref mL, .int lS]))] := hD
          refine lv_iload_n hx hb dX8_blank_58 rfl (lv_at hl 0 rfl) ?_
          refine kIret (u := (0, j0, j1, 0, j3, s0, s1, 0, s3)) hx hb hr rfl hlocks hS dX8_blank_59 ?_ (hP.sub [2, 0, 1] rfl) (hD.sub [2, 0, 1] (by decide) rfl)
          try dsimp only
          repeat' (with_reducible apply And.intro)
          all_goals first | with_reducible assumption | ((try simp only [jT_, jP_, jD_, jC_, jB_, jW_, Int32.reduceToInt, Int64.reduceToInt, true_or, or_true, true_and, and_true]) <;> omega)
        · have t_47_19 := c_47_19
          try simp only [kb_eq0, kb_ne0, lg_cmp_lt, lg_cmp_le, lg_cmp_gt, lg_cmp_ge, lg_cmp_eq] at t_47_19
          try simp only [Int32.lt_iff_toInt_lt, Int32.le_iff_toInt_le, ← Int32.toInt_inj, Int64.lt_iff_toInt_lt, Int64.le_iff_toInt_le, ← Int64.toInt_inj, Int32.toInt_toInt64, Int32.reduceToInt, Int64.reduceToInt] at t_47_19
          refine lv_iconst (v := 1) hx hb dX8_blank_50 (by decide) ?_
          refine lv_goto (tgt := 55) hx hb dX8_blank_51 (by decide) ?_
          refine va_put (D := D) (ci := 8) (v := .int 1) (ty := .boolean) (C := RX8) (T := TX8) (N := 31) hx hb hts iX8_blank_X8 tyX8 tyX8_ok nmX8 hown hK hP hD hS 2 rfl rfl 13 (by decide) (hts (.fieldLink RX8 115 "TapeCalculatorModel" "isWritten" "Z") (List.mem_of_getElem? (i := 3) rfl)) (fun _ h9 => h9) rfl (by decide +kernel) rfl rfl (Nat.le_of_ble_eq_true rfl) dX8_blank_55 (fun H locs hP hD hS => ?_)
          have hP : va_P D vwCl [(mJ, .inl (cI, 4, .inl (k4i j0 j1 0 j3))), (mS, .inl (cI, 4, .inl (k4i s0 s1 0 s3))), (m0, .inr (8, [.ref mH, .int aM, .long aC, .int mM, .long mQ, .int oV, .int pL, .int lI, .int sW, .int dP, .int sT, .long aT, .int cH, .int 1, .ref mI, .ref mJ, .ref mS, .ref mD, .int iH, .int aE, .int mN, .long sZ, .ref mX, .int tS, .int tA, .int tW, .ref mA, .ref mB, .ref mW, .ref mL, .int lS]))] H := hP
          have hD : va_D A [(mJ, .inl (cI, 4, .inl (k4i j0 j1 0 j3))), (mS, .inl (cI, 4, .inl (k4i s0 s1 0 s3))), (m0, .inr (8, [.ref mH, .int aM, .long aC, .int mM, .long mQ, .int oV, .int pL, .int lI, .int sW, .int dP, .int sT, .long aT, .int cH, .int 1, .ref mI, .ref mJ, .ref mS, .ref mD, .int iH, .int aE, .int mN, .long sZ, .ref mX, .int tS, .int tA, .int tW, .ref mA, .ref mB, .ref mW, .ref mL, .int lS]))] := hD
          refine lv_iload_n hx hb dX8_blank_58 rfl (lv_at hl 0 rfl) ?_
          refine kIret (u := (1, j0, j1, 0, j3, s0, s1, 0, s3)) hx hb hr rfl hlocks hS dX8_blank_59 ?_ (hP.sub [2, 0, 1] rfl) (hD.sub [2, 0, 1] (by decide) rfl)
          try dsimp only
          repeat' (with_reducible apply And.intro)
          all_goals first | with_reducible assumption | ((try simp only [jT_, jP_, jD_, jC_, jB_, jW_, Int32.reduceToInt, Int64.reduceToInt, true_or, or_true, true_and, and_true]) <;> omega)
    · have t_5_15 := c_5_15
      try simp only [kb_eq0, kb_ne0, lg_cmp_lt, lg_cmp_le, lg_cmp_gt, lg_cmp_ge, lg_cmp_eq] at t_5_15
      try simp only [Int32.lt_iff_toInt_lt, Int32.le_iff_toInt_le, ← Int32.toInt_inj, Int64.lt_iff_toInt_lt, Int64.le_iff_toInt_le, ← Int64.toInt_inj, Int32.toInt_toInt64, Int32.reduceToInt, Int64.reduceToInt] at t_5_15
      omega
  · have hiw0 : iW.toInt = 0 ∨ (iW.toInt = 1 ∧ 9 ≤ cH.toInt ∧ cH.toInt ≤ 12) := hiw
    refine lv_aload_n hx hb dX8_blank_0 rfl (lv_at hl 0 rfl) ?_
    refine lv_iload_n hx hb dX8_blank_1 rfl (lv_at hl 1 rfl) ?_
    refine kCallI (wr := [(mJ, .inl (cI, 4, .inl (k4i j0 j1 j2 j3))), (mS, .inl (cI, 4, .inl (k4i s0 s1 s2 s3)))]) (va_runV (As := [.int 3]) (rest := []) ⟨hx, hb, hml, hown, hts⟩ (q_isTape l D cI cL cB cZ cT _ m0 mH mI mJ mS mD mX mA mB mW mL aM aC mM mQ oV pL lI sW dP sT aT cH iW iH aE mN sZ tS tA tW lS 3) (cwV 1 hts gX8_blank_X8_isTape rfl rfl rfl (by decide +kernel) ⟨Nat.le_of_ble_eq_true rfl, Nat.le_of_ble_eq_true rfl⟩) (kPreV hG hP hD [0] rfl (by decide) 0 8 rfl rfl rfl) rfl rfl hl.1 rfl (lv_room (Nat.le_of_ble_eq_true rfl)) dX8_blank_2 ⟨Nat.le_of_ble_eq_true rfl, Nat.le_of_ble_eq_true rfl⟩) hA hP hD hS [0] [1, 2] rfl rfl (by decide) (by decide) (fun r_21 u_r_21 H locs wr_21 hP hD hS => ?_)
    have hP : va_P D vwCl [(mJ, .inl (cI, 4, .inl (k4i j0 j1 j2 j3))), (mS, .inl (cI, 4, .inl (k4i s0 s1 s2 s3))), (m0, .inr (8, [.ref mH, .int aM, .long aC, .int mM, .long mQ, .int oV, .int pL, .int lI, .int sW, .int dP, .int sT, .long aT, .int cH, .int iW, .ref mI, .ref mJ, .ref mS, .ref mD, .int iH, .int aE, .int mN, .long sZ, .ref mX, .int tS, .int tA, .int tW, .ref mA, .ref mB, .ref mW, .ref mL, .int lS]))] H := hP
    have hD : va_D A [(mJ, .inl (cI, 4, .inl (k4i j0 j1 j2 j3))), (mS, .inl (cI, 4, .inl (k4i s0 s1 s2 s3))), (m0, .inr (8, [.ref mH, .int aM, .long aC, .int mM, .long mQ, .int oV, .int pL, .int lI, .int sW, .int dP, .int sT, .long aT, .int cH, .int iW, .ref mI, .ref mJ, .ref mS, .ref mD, .int iH, .int aE, .int mN, .long sZ, .ref mX, .int tS, .int tA, .int tW, .ref mA, .ref mB, .ref mW, .ref mL, .int lS]))] := hD
    try dsimp only at wr_21
    subst wr_21
    refine lv_if_ne (tgt := 10) hx hb dX8_blank_5 (by decide) (fun c_5_21 => ?_) (fun c_5_21 => ?_)
    · have t_5_21 := c_5_21
      try simp only [kb_eq0, kb_ne0, lg_cmp_lt, lg_cmp_le, lg_cmp_gt, lg_cmp_ge, lg_cmp_eq] at t_5_21
      try simp only [Int32.lt_iff_toInt_lt, Int32.le_iff_toInt_le, ← Int32.toInt_inj, Int64.lt_iff_toInt_lt, Int64.le_iff_toInt_le, ← Int64.toInt_inj, Int32.toInt_toInt64, Int32.reduceToInt, Int64.reduceToInt] at t_5_21
      refine lv_aload_n hx hb dX8_blank_10 rfl (lv_at hl 0 rfl) ?_
      refine va_get (D := D) (ci := 8) (v := .ref mJ) (C := RX8) (T := TX8) (N := 31) hx hb hts iX8_blank_X8 hown hK hP 2 rfl rfl 15 (by decide) (hts (.fieldLink RX8 17 "TapeCalculatorModel" "items" "[I") (List.mem_of_getElem? (i := 1) rfl)) (fun _ h9 => h9) rfl dX8_blank_11 ?_
      refine lv_iload_n hx hb dX8_blank_14 rfl (lv_at hl 1 rfl) ?_
      refine va_iald hx hb hK hP 0 0 rfl rfl (vp_in_iff.mpr (by decide)) dX8_blank_15 ?_
      refine lv_topi (fun x_23 ex_23 => ?_)
      obtain rfl : j3 = x_23 := ex_23.symm
      refine lv_istore_n (lv' := [(2, .int j3), (0, .ref m0), (1, .int 3)]) hx hb dX8_blank_16 rfl hl (by decide) rfl (fun ls hl => ?_)
      refine lv_aload_n hx hb dX8_blank_17 rfl (lv_at hl 1 rfl) ?_
      refine va_get (D := D) (ci := 8) (v := .ref mJ) (C := RX8) (T := TX8) (N := 31) hx hb hts iX8_blank_X8 hown hK hP 2 rfl rfl 15 (by decide) (hts (.fieldLink RX8 17 "TapeCalculatorModel" "items" "[I") (List.mem_of_getElem? (i := 1) rfl)) (fun _ h9 => h9) rfl dX8_blank_18 ?_
      refine lv_iload_n hx hb dX8_blank_21 rfl (lv_at hl 2 rfl) ?_
      refine lv_iconst (v := 0) hx hb dX8_blank_22 (by decide) ?_
      refine va_iast hx hb hK hP hD hS 0 0 rfl rfl (vp_in_iff.mpr (by decide)) dX8_blank_23 (fun H locs hP hD hS => ?_)
      rw [k4i_3] at hP hD
      have hP : va_P D vwCl [(mJ, .inl (cI, 4, .inl (k4i j0 j1 j2 0))), (mS, .inl (cI, 4, .inl (k4i s0 s1 s2 s3))), (m0, .inr (8, [.ref mH, .int aM, .long aC, .int mM, .long mQ, .int oV, .int pL, .int lI, .int sW, .int dP, .int sT, .long aT, .int cH, .int iW, .ref mI, .ref mJ, .ref mS, .ref mD, .int iH, .int aE, .int mN, .long sZ, .ref mX, .int tS, .int tA, .int tW, .ref mA, .ref mB, .ref mW, .ref mL, .int lS]))] H := hP
      have hD : va_D A [(mJ, .inl (cI, 4, .inl (k4i j0 j1 j2 0))), (mS, .inl (cI, 4, .inl (k4i s0 s1 s2 s3))), (m0, .inr (8, [.ref mH, .int aM, .long aC, .int mM, .long mQ, .int oV, .int pL, .int lI, .int sW, .int dP, .int sT, .long aT, .int cH, .int iW, .ref mI, .ref mJ, .ref mS, .ref mD, .int iH, .int aE, .int mN, .long sZ, .ref mX, .int tS, .int tA, .int tW, .ref mA, .ref mB, .ref mW, .ref mL, .int lS]))] := hD
      refine lv_aload_n hx hb dX8_blank_24 rfl (lv_at hl 1 rfl) ?_
      refine va_get (D := D) (ci := 8) (v := .ref mS) (C := RX8) (T := TX8) (N := 31) hx hb hts iX8_blank_X8 hown hK hP 2 rfl rfl 16 (by decide) (hts (.fieldLink RX8 20 "TapeCalculatorModel" "stands" "[I") (List.mem_of_getElem? (i := 2) rfl)) (fun _ h9 => h9) rfl dX8_blank_25 ?_
      refine lv_iload_n hx hb dX8_blank_28 rfl (lv_at hl 2 rfl) ?_
      refine lv_iconst (v := 0) hx hb dX8_blank_29 (by decide) ?_
      refine va_iast hx hb hK hP hD hS 1 0 rfl rfl (vp_in_iff.mpr (by decide)) dX8_blank_30 (fun H locs hP hD hS => ?_)
      rw [k4i_3] at hP hD
      have hP : va_P D vwCl [(mJ, .inl (cI, 4, .inl (k4i j0 j1 j2 0))), (mS, .inl (cI, 4, .inl (k4i s0 s1 s2 0))), (m0, .inr (8, [.ref mH, .int aM, .long aC, .int mM, .long mQ, .int oV, .int pL, .int lI, .int sW, .int dP, .int sT, .long aT, .int cH, .int iW, .ref mI, .ref mJ, .ref mS, .ref mD, .int iH, .int aE, .int mN, .long sZ, .ref mX, .int tS, .int tA, .int tW, .ref mA, .ref mB, .ref mW, .ref mL, .int lS]))] H := hP
      have hD : va_D A [(mJ, .inl (cI, 4, .inl (k4i j0 j1 j2 0))), (mS, .inl (cI, 4, .inl (k4i s0 s1 s2 0))), (m0, .inr (8, [.ref mH, .int aM, .long aC, .int mM, .long mQ, .int oV, .int pL, .int lI, .int sW, .int dP, .int sT, .long aT, .int cH, .int iW, .ref mI, .ref mJ, .ref mS, .ref mD, .int iH, .int aE, .int mN, .long sZ, .ref mX, .int tS, .int tA, .int tW, .ref mA, .ref mB, .ref mW, .ref mL, .int lS]))] := hD
      refine lv_aload_n hx hb dX8_blank_31 rfl (lv_at hl 1 rfl) ?_
      refine lv_aload_n hx hb dX8_blank_32 rfl (lv_at hl 1 rfl) ?_
      refine va_get (D := D) (ci := 8) (v := .int iW) (C := RX8) (T := TX8) (N := 31) hx hb hts iX8_blank_X8 hown hK hP 2 rfl rfl 13 (by decide) (hts (.fieldLink RX8 115 "TapeCalculatorModel" "isWritten" "Z") (List.mem_of_getElem? (i := 3) rfl)) (fun _ h9 => h9) rfl dX8_blank_33 ?_
      refine lv_if_eq (tgt := 54) hx hb dX8_blank_36 (by decide) (fun c_36_23 => ?_) (fun c_36_23 => ?_)
      · have t_36_23 := c_36_23
        try simp only [kb_eq0, kb_ne0, lg_cmp_lt, lg_cmp_le, lg_cmp_gt, lg_cmp_ge, lg_cmp_eq] at t_36_23
        try simp only [Int32.lt_iff_toInt_lt, Int32.le_iff_toInt_le, ← Int32.toInt_inj, Int64.lt_iff_toInt_lt, Int64.le_iff_toInt_le, ← Int64.toInt_inj, Int32.toInt_toInt64, Int32.reduceToInt, Int64.reduceToInt] at t_36_23
        refine lv_iconst (v := 0) hx hb dX8_blank_54 (by decide) ?_
        refine va_put (D := D) (ci := 8) (v := .int 0) (ty := .boolean) (C := RX8) (T := TX8) (N := 31) hx hb hts iX8_blank_X8 tyX8 tyX8_ok nmX8 hown hK hP hD hS 2 rfl rfl 13 (by decide) (hts (.fieldLink RX8 115 "TapeCalculatorModel" "isWritten" "Z") (List.mem_of_getElem? (i := 3) rfl)) (fun _ h9 => h9) rfl (by decide +kernel) rfl rfl (Nat.le_of_ble_eq_true rfl) dX8_blank_55 (fun H locs hP hD hS => ?_)
        have hP : va_P D vwCl [(mJ, .inl (cI, 4, .inl (k4i j0 j1 j2 0))), (mS, .inl (cI, 4, .inl (k4i s0 s1 s2 0))), (m0, .inr (8, [.ref mH, .int aM, .long aC, .int mM, .long mQ, .int oV, .int pL, .int lI, .int sW, .int dP, .int sT, .long aT, .int cH, .int 0, .ref mI, .ref mJ, .ref mS, .ref mD, .int iH, .int aE, .int mN, .long sZ, .ref mX, .int tS, .int tA, .int tW, .ref mA, .ref mB, .ref mW, .ref mL, .int lS]))] H := hP
        have hD : va_D A [(mJ, .inl (cI, 4, .inl (k4i j0 j1 j2 0))), (mS, .inl (cI, 4, .inl (k4i s0 s1 s2 0))), (m0, .inr (8, [.ref mH, .int aM, .long aC, .int mM, .long mQ, .int oV, .int pL, .int lI, .int sW, .int dP, .int sT, .long aT, .int cH, .int 0, .ref mI, .ref mJ, .ref mS, .ref mD, .int iH, .int aE, .int mN, .long sZ, .ref mX, .int tS, .int tA, .int tW, .ref mA, .ref mB, .ref mW, .ref mL, .int lS]))] := hD
        refine lv_iload_n hx hb dX8_blank_58 rfl (lv_at hl 0 rfl) ?_
        refine kIret (u := (0, j0, j1, j2, 0, s0, s1, s2, 0)) hx hb hr rfl hlocks hS dX8_blank_59 ?_ (hP.sub [2, 0, 1] rfl) (hD.sub [2, 0, 1] (by decide) rfl)
        try dsimp only
        repeat' (with_reducible apply And.intro)
        all_goals first | with_reducible assumption | ((try simp only [jT_, jP_, jD_, jC_, jB_, jW_, Int32.reduceToInt, Int64.reduceToInt, true_or, or_true, true_and, and_true]) <;> omega)
      · have t_36_23 := c_36_23
        try simp only [kb_eq0, kb_ne0, lg_cmp_lt, lg_cmp_le, lg_cmp_gt, lg_cmp_ge, lg_cmp_eq] at t_36_23
        try simp only [Int32.lt_iff_toInt_lt, Int32.le_iff_toInt_le, ← Int32.toInt_inj, Int64.lt_iff_toInt_lt, Int64.le_iff_toInt_le, ← Int64.toInt_inj, Int32.toInt_toInt64, Int32.reduceToInt, Int64.reduceToInt] at t_36_23
        refine lv_aload_n hx hb dX8_blank_39 rfl (lv_at hl 1 rfl) ?_
        refine va_get (D := D) (ci := 8) (v := .int cH) (C := RX8) (T := TX8) (N := 31) hx hb hts iX8_blank_X8 hown hK hP 2 rfl rfl 12 (by decide) (hts (.fieldLink RX8 43 "TapeCalculatorModel" "chosen" "I") (List.mem_of_getElem? (i := 4) rfl)) (fun _ h9 => h9) rfl dX8_blank_40 ?_
        refine lv_bipush (v := 9) hx hb dX8_blank_43 (by decide) ?_
        refine lv_iload_n hx hb dX8_blank_45 rfl (lv_at hl 2 rfl) ?_
        refine lv_iadd hx hb dX8_blank_46 ?_
        refine lv_topi (fun x_25 ex_25 => ?_)
        obtain rfl : x_25 = 12 := ex_25.trans (by decide)
        refine lv_icmp_eq (tgt := 54) hx hb dX8_blank_47 (by decide) (fun c_47_25 => ?_) (fun c_47_25 => ?_)
        · have t_47_25 := c_47_25
          try simp only [kb_eq0, kb_ne0, lg_cmp_lt, lg_cmp_le, lg_cmp_gt, lg_cmp_ge, lg_cmp_eq] at t_47_25
          try simp only [Int32.lt_iff_toInt_lt, Int32.le_iff_toInt_le, ← Int32.toInt_inj, Int64.lt_iff_toInt_lt, Int64.le_iff_toInt_le, ← Int64.toInt_inj, Int32.toInt_toInt64, Int32.reduceToInt, Int64.reduceToInt] at t_47_25
          refine lv_iconst (v := 0) hx hb dX8_blank_54 (by decide) ?_
          refine va_put (D := D) (ci := 8) (v := .int 0) (ty := .boolean) (C := RX8) (T := TX8) (N := 31) hx hb hts iX8_blank_X8 tyX8 tyX8_ok nmX8 hown hK hP hD hS 2 rfl rfl 13 (by decide) (hts (.fieldLink RX8 115 "TapeCalculatorModel" "isWritten" "Z") (List.mem_of_getElem? (i := 3) rfl)) (fun _ h9 => h9) rfl (by decide +kernel) rfl rfl (Nat.le_of_ble_eq_true rfl) dX8_blank_55 (fun H locs hP hD hS => ?_)
          have hP : va_P D vwCl [(mJ, .inl (cI, 4, .inl (k4i j0 j1 j2 0))), (mS, .inl (cI, 4, .inl (k4i s0 s1 s2 0))), (m0, .inr (8, [.ref mH, .int aM, .long aC, .int mM, .long mQ, .int oV, .int pL, .int lI, .int sW, .int dP, .int sT, .long aT, .int cH, .int 0, .ref mI, .ref mJ, .ref mS, .ref mD, .int iH, .int aE, .int mN, .long sZ, .ref mX, .int tS, .int tA, .int tW, .ref mA, .ref mB, .ref mW, .ref mL, .int lS]))] H := hP
          have hD : va_D A [(mJ, .inl (cI, 4, .inl (k4i j0 j1 j2 0))), (mS, .inl (cI, 4, .inl (k4i s0 s1 s2 0))), (m0, .inr (8, [.ref mH, .int aM, .long aC, .int mM, .long mQ, .int oV, .int pL, .int lI, .int sW, .int dP, .int sT, .long aT, .int cH, .int 0, .ref mI, .ref mJ, .ref mS, .ref mD, .int iH, .int aE, .int mN, .long sZ, .ref mX, .int tS, .int tA, .int tW, .ref mA, .ref mB, .ref mW, .ref mL, .int lS]))] := hD
          refine lv_iload_n hx hb dX8_blank_58 rfl (lv_at hl 0 rfl) ?_
          refine kIret (u := (0, j0, j1, j2, 0, s0, s1, s2, 0)) hx hb hr rfl hlocks hS dX8_blank_59 ?_ (hP.sub [2, 0, 1] rfl) (hD.sub [2, 0, 1] (by decide) rfl)
          try dsimp only
          repeat' (with_reducible apply And.intro)
          all_goals first | with_reducible assumption | ((try simp only [jT_, jP_, jD_, jC_, jB_, jW_, Int32.reduceToInt, Int64.reduceToInt, true_or, or_true, true_and, and_true]) <;> omega)
        · have t_47_25 := c_47_25
          try simp only [kb_eq0, kb_ne0, lg_cmp_lt, lg_cmp_le, lg_cmp_gt, lg_cmp_ge, lg_cmp_eq] at t_47_25
          try simp only [Int32.lt_iff_toInt_lt, Int32.le_iff_toInt_le, ← Int32.toInt_inj, Int64.lt_iff_toInt_lt, Int64.le_iff_toInt_le, ← Int64.toInt_inj, Int32.toInt_toInt64, Int32.reduceToInt, Int64.reduceToInt] at t_47_25
          refine lv_iconst (v := 1) hx hb dX8_blank_50 (by decide) ?_
          refine lv_goto (tgt := 55) hx hb dX8_blank_51 (by decide) ?_
          refine va_put (D := D) (ci := 8) (v := .int 1) (ty := .boolean) (C := RX8) (T := TX8) (N := 31) hx hb hts iX8_blank_X8 tyX8 tyX8_ok nmX8 hown hK hP hD hS 2 rfl rfl 13 (by decide) (hts (.fieldLink RX8 115 "TapeCalculatorModel" "isWritten" "Z") (List.mem_of_getElem? (i := 3) rfl)) (fun _ h9 => h9) rfl (by decide +kernel) rfl rfl (Nat.le_of_ble_eq_true rfl) dX8_blank_55 (fun H locs hP hD hS => ?_)
          have hP : va_P D vwCl [(mJ, .inl (cI, 4, .inl (k4i j0 j1 j2 0))), (mS, .inl (cI, 4, .inl (k4i s0 s1 s2 0))), (m0, .inr (8, [.ref mH, .int aM, .long aC, .int mM, .long mQ, .int oV, .int pL, .int lI, .int sW, .int dP, .int sT, .long aT, .int cH, .int 1, .ref mI, .ref mJ, .ref mS, .ref mD, .int iH, .int aE, .int mN, .long sZ, .ref mX, .int tS, .int tA, .int tW, .ref mA, .ref mB, .ref mW, .ref mL, .int lS]))] H := hP
          have hD : va_D A [(mJ, .inl (cI, 4, .inl (k4i j0 j1 j2 0))), (mS, .inl (cI, 4, .inl (k4i s0 s1 s2 0))), (m0, .inr (8, [.ref mH, .int aM, .long aC, .int mM, .long mQ, .int oV, .int pL, .int lI, .int sW, .int dP, .int sT, .long aT, .int cH, .int 1, .ref mI, .ref mJ, .ref mS, .ref mD, .int iH, .int aE, .int mN, .long sZ, .ref mX, .int tS, .int tA, .int tW, .ref mA, .ref mB, .ref mW, .ref mL, .int lS]))] := hD
          refine lv_iload_n hx hb dX8_blank_58 rfl (lv_at hl 0 rfl) ?_
          refine kIret (u := (1, j0, j1, j2, 0, s0, s1, s2, 0)) hx hb hr rfl hlocks hS dX8_blank_59 ?_ (hP.sub [2, 0, 1] rfl) (hD.sub [2, 0, 1] (by decide) rfl)
          try dsimp only
          repeat' (with_reducible apply And.intro)
          all_goals first | with_reducible assumption | ((try simp only [jT_, jP_, jD_, jC_, jB_, jW_, Int32.reduceToInt, Int64.reduceToInt, true_or, or_true, true_and, and_true]) <;> omega)
    · have t_5_21 := c_5_21
      try simp only [kb_eq0, kb_ne0, lg_cmp_lt, lg_cmp_le, lg_cmp_gt, lg_cmp_ge, lg_cmp_eq] at t_5_21
      try simp only [Int32.lt_iff_toInt_lt, Int32.le_iff_toInt_le, ← Int32.toInt_inj, Int64.lt_iff_toInt_lt, Int64.le_iff_toInt_le, ← Int64.toInt_inj, Int32.toInt_toInt64, Int32.reduceToInt, Int64.reduceToInt] at t_5_21
      omega
set_option maxRecDepth 100000 in
theorem iX8_drum_X8 : ∀ w ∈ wsX80, w ∈ wsX8_drum := fun w h => (goodIn_r (big := wsX8_drum) wsX80 [8, 9, 10, 11, 12, 13, 14, 15, 16, 17, 18, 19, 20, 21, 22, 23, 24, 25, 26, 27, 28, 29, 30, 31, 32, 33, 34, 35, 36, 37, 38] rfl (by decide +kernel) w h).1
set_option maxRecDepth 100000 in
set_option maxHeartbeats 4000000 in
theorem q_drum (l : Launch) (D : va_G) (cI cL cB cZ cT : ClassId) (sz : Nat) (m0 mH mI mJ mS mD mX mA mB mW mL : Nat) (aM : Int32) (aC : Int64) (mM : Int32) (mQ : Int64) (oV pL lI sW dP sT : Int32) (aT : Int64) (cH iW iH aE mN : Int32) (sZ : Int64) (tS tA tW lS : Int32) (fD : Nat → Int64) (i : Int32) : kM (S := Unit) l yX8_drum wsX8_drum ({ frames := 1, cells := 0, slots := 0, locals := 25 }) D (kT cI cL cB cZ cT) [.ref m0, .int i] [(m0, .inr (8, [.ref mH, .int aM, .long aC, .int mM, .long mQ, .int oV, .int pL, .int lI, .int sW, .int dP, .int sT, .long aT, .int cH, .int iW, .ref mI, .ref mJ, .ref mS, .ref mD, .int iH, .int aE, .int mN, .long sZ, .ref mX, .int tS, .int tA, .int tW, .ref mA, .ref mB, .ref mW, .ref mL, .int lS])), (mD, .inl (cL, 256, .inr (.inl fD)))] sz eL (fun _ _ => True) (fun _ => [(m0, .inr (8, [.ref mH, .int aM, .long aC, .int mM, .long mQ, .int oV, .int pL, .int lI, .int sW, .int dP, .int sT, .long aT, .int cH, .int iW, .ref mI, .ref mJ, .ref mS, .ref mD, .int iH, .int aE, .int mN, .long sZ, .ref mX, .int tS, .int tA, .int tW, .ref mA, .ref mB, .ref mW, .ref mL, .int lS])), (mD, .inl (cL, 256, .inr (.inl fD)))]) 0 0 := by
  refine kStart (cc := cX8_drum) (maxL := 2) (ret := (some .long)) (own := RX8) (by decide) rfl rfl (Nat.le_of_ble_eq_true rfl) ?_
  intro p e s m args below meth c A ls hx hb hr hml hown hts hlocks hnm hsz hA hG hP hD hS hl
  have hK := hG.1
  have hl : lv_has ls 2 [(0, .ref m0), (1, .int i)] := hl
  refine lv_iload_n hx hb dX8_drum_0 rfl (lv_at hl 1 rfl) ?_
  refine lv_i2l hx hb dX8_drum_1 rfl ?_
  refine lv_lconst (v := 0) hx hb dX8_drum_2 (by decide) ?_
  refine lv_ldc2 (v := 255) hx hb hown (hts (.constantLong RX8 118 (255)) (List.mem_of_getElem? (i := 1) rfl)) dX8_drum_3 ?_
  refine kCallI (wr := [(m0, .inr (8, [.ref mH, .int aM, .long aC, .int mM, .long mQ, .int oV, .int pL, .int lI, .int sW, .int dP, .int sT, .long aT, .int cH, .int iW, .ref mI, .ref mJ, .ref mS, .ref mD, .int iH, .int aE, .int mN, .long sZ, .ref mX, .int tS, .int tA, .int tW, .ref mA, .ref mB, .ref mW, .ref mL, .int lS])), (mD, .inl (cL, 256, .inr (.inl fD)))]) (va_runS (As := [.long i.toInt64, .long 0, .long 255]) (rest := []) ⟨hx, hb, hml, hown, hts⟩ (q_in l D cI cL cB cZ cT _ (i.toInt64) 0 255) (va_cwS 3 hts gX8_drum_X8_in rfl rfl rfl (by decide +kernel) ⟨Nat.le_of_ble_eq_true rfl, Nat.le_of_ble_eq_true rfl⟩) (kPreS hG hP hD [] rfl (by decide)) rfl rfl hl.1 rfl (lv_room (Nat.le_of_ble_eq_true rfl)) dX8_drum_6 ⟨Nat.le_of_ble_eq_true rfl, Nat.le_of_ble_eq_true rfl⟩) hA hP hD hS [] [0, 1] rfl rfl (by decide) (by decide) (fun r_1 u_r_1 H locs wr_1 hP hD hS => ?_)
  have hP : va_P D vwCl [(m0, .inr (8, [.ref mH, .int aM, .long aC, .int mM, .long mQ, .int oV, .int pL, .int lI, .int sW, .int dP, .int sT, .long aT, .int cH, .int iW, .ref mI, .ref mJ, .ref mS, .ref mD, .int iH, .int aE, .int mN, .long sZ, .ref mX, .int tS, .int tA, .int tW, .ref mA, .ref mB, .ref mW, .ref mL, .int lS])), (mD, .inl (cL, 256, .inr (.inl fD)))] H := hP
  have hD : va_D A [(m0, .inr (8, [.ref mH, .int aM, .long aC, .int mM, .long mQ, .int oV, .int pL, .int lI, .int sW, .int dP, .int sT, .long aT, .int cH, .int iW, .ref mI, .ref mJ, .ref mS, .ref mD, .int iH, .int aE, .int mN, .long sZ, .ref mX, .int tS, .int tA, .int tW, .ref mA, .ref mB, .ref mW, .ref mL, .int lS])), (mD, .inl (cL, 256, .inr (.inl fD)))] := hD
  try dsimp only at wr_1
  subst wr_1
  refine lv_if_eq (tgt := 21) hx hb dX8_drum_9 (by decide) (fun c_9_1 => ?_) (fun c_9_1 => ?_)
  · have t_9_1 := c_9_1
    try simp only [kb_eq0, kb_ne0, lg_cmp_lt, lg_cmp_le, lg_cmp_gt, lg_cmp_ge, lg_cmp_eq] at t_9_1
    try simp only [Int32.lt_iff_toInt_lt, Int32.le_iff_toInt_le, ← Int32.toInt_inj, Int64.lt_iff_toInt_lt, Int64.le_iff_toInt_le, ← Int64.toInt_inj, Int32.toInt_toInt64, Int32.reduceToInt, Int64.reduceToInt] at t_9_1
    refine lv_ldc2 (v := (-1)) hx hb hown (hts (.constantLong RX8 59 (-1)) (List.mem_of_getElem? (i := 3) rfl)) dX8_drum_21 ?_
    refine kLret (u := ()) hx hb hr hlocks hS dX8_drum_24 ?_ (hP.sub [0, 1] rfl) (hD.sub [0, 1] (by decide) rfl)
    exact trivial
  · have t_9_1 := c_9_1
    try simp only [kb_eq0, kb_ne0, lg_cmp_lt, lg_cmp_le, lg_cmp_gt, lg_cmp_ge, lg_cmp_eq] at t_9_1
    try simp only [Int32.lt_iff_toInt_lt, Int32.le_iff_toInt_le, ← Int32.toInt_inj, Int64.lt_iff_toInt_lt, Int64.le_iff_toInt_le, ← Int64.toInt_inj, Int32.toInt_toInt64, Int32.reduceToInt, Int64.reduceToInt] at t_9_1
    refine lv_aload_n hx hb dX8_drum_12 rfl (lv_at hl 0 rfl) ?_
    refine va_get (D := D) (ci := 8) (v := .ref mD) (C := RX8) (T := TX8) (N := 31) hx hb hts iX8_drum_X8 hown hK hP 0 rfl rfl 17 (by decide) (hts (.fieldLink RX8 23 "TapeCalculatorModel" "drum" "[J") (List.mem_of_getElem? (i := 2) rfl)) (fun _ h9 => h9) rfl dX8_drum_13 ?_
    refine lv_iload_n hx hb dX8_drum_16 rfl (lv_at hl 1 rfl) ?_
    refine va_lald hx hb hK hP 1 1 rfl rfl (vp_in_iff.mpr (by omega)) dX8_drum_17 ?_
    refine lv_goto (tgt := 24) hx hb dX8_drum_18 (by decide) ?_
    refine kLret (u := ()) hx hb hr hlocks hS dX8_drum_24 ?_ (hP.sub [0, 1] rfl) (hD.sub [0, 1] (by decide) rfl)
    exact trivial
set_option maxRecDepth 100000 in
theorem iX8_puts_X8 : ∀ w ∈ wsX80, w ∈ wsX8_puts := fun w h => (goodIn_r (big := wsX8_puts) wsX80 [4, 5, 6, 7, 8, 9, 10, 11, 12, 13, 14, 15, 16, 17, 18, 19, 20, 21, 22, 23, 24, 25, 26, 27, 28, 29, 30, 31, 32, 33, 34] rfl (by decide +kernel) w h).1
set_option maxRecDepth 100000 in
set_option maxHeartbeats 4000000 in
theorem q_puts (l : Launch) (D : va_G) (cI cL cB cZ cT : ClassId) (sz : Nat) (m0 mH mI mJ mS mD mX mA mB mW mL : Nat) (aM : Int32) (aC : Int64) (mM : Int32) (mQ : Int64) (oV pL lI sW dP sT : Int32) (aT : Int64) (cH iW iH aE mN : Int32) (sZ : Int64) (tS tA tW lS : Int32) (fI : Nat → Int64) (j0 j1 j2 j3 : Int32) (s0 s1 s2 s3 : Int32) (t : Int32) (v : Int64) (ht0 : jT_ s0 j0) (ht1 : jT_ s1 j1) (ht2 : jT_ s2 j2) (ht3 : jT_ s3 j3) (ht : 0 ≤ t.toInt ∧ t.toInt ≤ 3) : kM (S := ((Nat → Int64) × Int32 × Int32 × Int32 × Int32 × Int32 × Int32 × Int32 × Int32)) l yX8_puts wsX8_puts ({ frames := 0, cells := 0, slots := 0, locals := 0 }) D (kT cI cL cB cZ cT) [.ref m0, .int t, .long v] [(m0, .inr (8, [.ref mH, .int aM, .long aC, .int mM, .long mQ, .int oV, .int pL, .int lI, .int sW, .int dP, .int sT, .long aT, .int cH, .int iW, .ref mI, .ref mJ, .ref mS, .ref mD, .int iH, .int aE, .int mN, .long sZ, .ref mX, .int tS, .int tA, .int tW, .ref mA, .ref mB, .ref mW, .ref mL, .int lS])), (mI, .inl (cL, 1200, .inr (.inl fI))), (mJ, .inl (cI, 4, .inl (k4i j0 j1 j2 j3))), (mS, .inl (cI, 4, .inl (k4i s0 s1 s2 s3)))] sz eI (fun r u => (r.toInt = 0 ∨ r.toInt = 1) ∧ jT_ (u.2.2.2.2.2.1) (u.2.1) ∧ jT_ (u.2.2.2.2.2.2.1) (u.2.2.1) ∧ jT_ (u.2.2.2.2.2.2.2.1) (u.2.2.2.1) ∧ jT_ (u.2.2.2.2.2.2.2.2) (u.2.2.2.2.1)) (fun u => [(m0, .inr (8, [.ref mH, .int aM, .long aC, .int mM, .long mQ, .int oV, .int pL, .int lI, .int sW, .int dP, .int sT, .long aT, .int cH, .int iW, .ref mI, .ref mJ, .ref mS, .ref mD, .int iH, .int aE, .int mN, .long sZ, .ref mX, .int tS, .int tA, .int tW, .ref mA, .ref mB, .ref mW, .ref mL, .int lS])), (mI, .inl (cL, 1200, .inr (.inl u.1))), (mJ, .inl (cI, 4, .inl (k4i u.2.1 u.2.2.1 u.2.2.2.1 u.2.2.2.2.1))), (mS, .inl (cI, 4, .inl (k4i u.2.2.2.2.2.1 u.2.2.2.2.2.2.1 u.2.2.2.2.2.2.2.1 u.2.2.2.2.2.2.2.2)))]) 0 0 := by
  refine kStart (cc := cX8_puts) (maxL := 4) (ret := (some .boolean)) (own := RX8) (by decide) rfl rfl (Nat.le_of_ble_eq_true rfl) ?_
  intro p e s m args below meth c A ls hx hb hr hml hown hts hlocks hnm hsz hA hG hP hD hS hl
  have hK := hG.1
  have hl : lv_has ls 4 [(0, .ref m0), (1, .int t), (2, .long v)] := hl
  rcases ksw_0_3 t with hsw | rfl | rfl | rfl | rfl
  · omega
  · have hu0 : 0 ≤ s0.toInt ∧ s0.toInt ≤ j0.toInt ∧ j0.toInt ≤ 300 := ht0
    have hs1 := k_addg (a := s0) (b := 1) (by omega) (by decide)
    simp only [Int32.reduceToInt] at hs1
    refine lv_aload_n hx hb dX8_puts_0 rfl (lv_at hl 0 rfl) ?_
    refine va_get (D := D) (ci := 8) (v := .ref mS) (C := RX8) (T := TX8) (N := 31) hx hb hts iX8_puts_X8 hown hK hP 0 rfl rfl 16 (by decide) (hts (.fieldLink RX8 20 "TapeCalculatorModel" "stands" "[I") (List.mem_of_getElem? (i := 1) rfl)) (fun _ h9 => h9) rfl dX8_puts_1 ?_
    refine lv_iload_n hx hb dX8_puts_4 rfl (lv_at hl 1 rfl) ?_
    refine va_iald hx hb hK hP 3 0 rfl rfl (vp_in_iff.mpr (by decide)) dX8_puts_5 ?_
    refine lv_topi (fun x_1 ex_1 => ?_)
    obtain rfl : s0 = x_1 := ex_1.symm
    refine lv_sipush (v := 300) hx hb dX8_puts_6 (by decide) ?_
    refine lv_icmp_ne (tgt := 14) hx hb dX8_puts_9 (by decide) (fun c_9_1 => ?_) (fun c_9_1 => ?_)
    · have t_9_1 := c_9_1
      try simp only [kb_eq0, kb_ne0, lg_cmp_lt, lg_cmp_le, lg_cmp_gt, lg_cmp_ge, lg_cmp_eq] at t_9_1
      try simp only [Int32.lt_iff_toInt_lt, Int32.le_iff_toInt_le, ← Int32.toInt_inj, Int64.lt_iff_toInt_lt, Int64.le_iff_toInt_le, ← Int64.toInt_inj, Int32.toInt_toInt64, Int32.reduceToInt, Int64.reduceToInt] at t_9_1
      refine lv_aload_n hx hb dX8_puts_14 rfl (lv_at hl 0 rfl) ?_
      refine va_get (D := D) (ci := 8) (v := .ref mI) (C := RX8) (T := TX8) (N := 31) hx hb hts iX8_puts_X8 hown hK hP 0 rfl rfl 14 (by decide) (hts (.fieldLink RX8 13 "TapeCalculatorModel" "item" "[J") (List.mem_of_getElem? (i := 2) rfl)) (fun _ h9 => h9) rfl dX8_puts_15 ?_
      refine lv_sipush (v := 300) hx hb dX8_puts_18 (by decide) ?_
      refine lv_iload_n hx hb dX8_puts_21 rfl (lv_at hl 1 rfl) ?_
      refine lv_imul hx hb dX8_puts_22 ?_
      refine lv_topi (fun x_3 ex_3 => ?_)
      obtain rfl : x_3 = 0 := ex_3.trans (by decide)
      refine lv_aload_n hx hb dX8_puts_23 rfl (lv_at hl 0 rfl) ?_
      refine va_get (D := D) (ci := 8) (v := .ref mS) (C := RX8) (T := TX8) (N := 31) hx hb hts iX8_puts_X8 hown hK hP 0 rfl rfl 16 (by decide) (hts (.fieldLink RX8 20 "TapeCalculatorModel" "stands" "[I") (List.mem_of_getElem? (i := 1) rfl)) (fun _ h9 => h9) rfl dX8_puts_24 ?_
      refine lv_iload_n hx hb dX8_puts_27 rfl (lv_at hl 1 rfl) ?_
      refine va_iald hx hb hK hP 3 0 rfl rfl (vp_in_iff.mpr (by decide)) dX8_puts_28 ?_
      refine lv_topi (fun x_4 ex_4 => ?_)
      obtain rfl : s0 = x_4 := ex_4.symm
      refine lv_iadd hx hb dX8_puts_29 ?_
      refine lv_lload_n hx hb dX8_puts_30 rfl (lv_at hl 2 rfl) ?_
      refine va_last hx hb hK hP hD hS 1 1 rfl rfl (vp_in_iff.mpr (by have hx9 := k_addg (a := 0) (b := s0) (by decide) (by omega); simp only [Int32.reduceToInt] at hx9; omega)) dX8_puts_31 (fun H locs hP hD hS => ?_)
      have hP : va_P D vwCl [(m0, .inr (8, [.ref mH, .int aM, .long aC, .int mM, .long mQ, .int oV, .int pL, .int lI, .int sW, .int dP, .int sT, .long aT, .int cH, .int iW, .ref mI, .ref mJ, .ref mS, .ref mD, .int iH, .int aE, .int mN, .long sZ, .ref mX, .int tS, .int tA, .int tW, .ref mA, .ref mB, .ref mW, .ref mL, .int lS])), (mI, .inl (cL, 1200, .inr (.inl (vp_updL fI (0 + s0).toNatClampNeg v)))), (mJ, .inl (cI, 4, .inl (k4i j0 j1 j2 j3))), (mS, .inl (cI, 4, .inl (k4i s0 s1 s2 s3)))] H := hP
      have hD : va_D A [(m0, .inr (8, [.ref mH, .int aM, .long aC, .int mM, .long mQ, .int oV, .int pL, .int lI, .int sW, .int dP, .int sT, .long aT, .int cH, .int iW, .ref mI, .ref mJ, .ref mS, .ref mD, .int iH, .int aE, .int mN, .long sZ, .ref mX, .int tS, .int tA, .int tW, .ref mA, .ref mB, .ref mW, .ref mL, .int lS])), (mI, .inl (cL, 1200, .inr (.inl (vp_updL fI (0 + s0).toNatClampNeg v)))), (mJ, .inl (cI, 4, .inl (k4i j0 j1 j2 j3))), (mS, .inl (cI, 4, .inl (k4i s0 s1 s2 s3)))] := hD
      refine lv_aload_n hx hb dX8_puts_32 rfl (lv_at hl 0 rfl) ?_
      refine va_get (D := D) (ci := 8) (v := .ref mS) (C := RX8) (T := TX8) (N := 31) hx hb hts iX8_puts_X8 hown hK hP 0 rfl rfl 16 (by decide) (hts (.fieldLink RX8 20 "TapeCalculatorModel" "stands" "[I") (List.mem_of_getElem? (i := 1) rfl)) (fun _ h9 => h9) rfl dX8_puts_33 ?_
      refine lv_iload_n hx hb dX8_puts_36 rfl (lv_at hl 1 rfl) ?_
      refine lv_dup2_11 hx hb dX8_puts_37 rfl rfl ?_
      refine va_iald hx hb hK hP 3 0 rfl rfl (vp_in_iff.mpr (by decide)) dX8_puts_38 ?_
      refine lv_topi (fun x_5 ex_5 => ?_)
      obtain rfl : s0 = x_5 := ex_5.symm
      refine lv_iconst (v := 1) hx hb dX8_puts_39 (by decide) ?_
      refine lv_iadd hx hb dX8_puts_40 ?_
      refine va_iast hx hb hK hP hD hS 3 0 rfl rfl (vp_in_iff.mpr (by decide)) dX8_puts_41 (fun H locs hP hD hS => ?_)
      rw [k4i_0] at hP hD
      have hP : va_P D vwCl [(m0, .inr (8, [.ref mH, .int aM, .long aC, .int mM, .long mQ, .int oV, .int pL, .int lI, .int sW, .int dP, .int sT, .long aT, .int cH, .int iW, .ref mI, .ref mJ, .ref mS, .ref mD, .int iH, .int aE, .int mN, .long sZ, .ref mX, .int tS, .int tA, .int tW, .ref mA, .ref mB, .ref mW, .ref mL, .int lS])), (mI, .inl (cL, 1200, .inr (.inl (vp_updL fI (0 + s0).toNatClampNeg v)))), (mJ, .inl (cI, 4, .inl (k4i j0 j1 j2 j3))), (mS, .inl (cI, 4, .inl (k4i (s0 + 1) s1 s2 s3)))] H := hP
      have hD : va_D A [(m0, .inr (8, [.ref mH, .int aM, .long aC, .int mM, .long mQ, .int oV, .int pL, .int lI, .int sW, .int dP, .int sT, .long aT, .int cH, .int iW, .ref mI, .ref mJ, .ref mS, .ref mD, .int iH, .int aE, .int mN, .long sZ, .ref mX, .int tS, .int tA, .int tW, .ref mA, .ref mB, .ref mW, .ref mL, .int lS])), (mI, .inl (cL, 1200, .inr (.inl (vp_updL fI (0 + s0).toNatClampNeg v)))), (mJ, .inl (cI, 4, .inl (k4i j0 j1 j2 j3))), (mS, .inl (cI, 4, .inl (k4i (s0 + 1) s1 s2 s3)))] := hD
      refine lv_aload_n hx hb dX8_puts_42 rfl (lv_at hl 0 rfl) ?_
      refine va_get (D := D) (ci := 8) (v := .ref mJ) (C := RX8) (T := TX8) (N := 31) hx hb hts iX8_puts_X8 hown hK hP 0 rfl rfl 15 (by decide) (hts (.fieldLink RX8 17 "TapeCalculatorModel" "items" "[I") (List.mem_of_getElem? (i := 3) rfl)) (fun _ h9 => h9) rfl dX8_puts_43 ?_
      refine lv_iload_n hx hb dX8_puts_46 rfl (lv_at hl 1 rfl) ?_
      refine lv_aload_n hx hb dX8_puts_47 rfl (lv_at hl 0 rfl) ?_
      refine va_get (D := D) (ci := 8) (v := .ref mS) (C := RX8) (T := TX8) (N := 31) hx hb hts iX8_puts_X8 hown hK hP 0 rfl rfl 16 (by decide) (hts (.fieldLink RX8 20 "TapeCalculatorModel" "stands" "[I") (List.mem_of_getElem? (i := 1) rfl)) (fun _ h9 => h9) rfl dX8_puts_48 ?_
      refine lv_iload_n hx hb dX8_puts_51 rfl (lv_at hl 1 rfl) ?_
      refine va_iald hx hb hK hP 3 0 rfl rfl (vp_in_iff.mpr (by decide)) dX8_puts_52 ?_
      refine lv_topi (fun x_6 ex_6 => ?_)
      obtain rfl : (s0 + 1) = x_6 := ex_6.symm
      refine va_iast hx hb hK hP hD hS 2 0 rfl rfl (vp_in_iff.mpr (by decide)) dX8_puts_53 (fun H locs hP hD hS => ?_)
      rw [k4i_0] at hP hD
      have hP : va_P D vwCl [(m0, .inr (8, [.ref mH, .int aM, .long aC, .int mM, .long mQ, .int oV, .int pL, .int lI, .int sW, .int dP, .int sT, .long aT, .int cH, .int iW, .ref mI, .ref mJ, .ref mS, .ref mD, .int iH, .int aE, .int mN, .long sZ, .ref mX, .int tS, .int tA, .int tW, .ref mA, .ref mB, .ref mW, .ref mL, .int lS])), (mI, .inl (cL, 1200, .inr (.inl (vp_updL fI (0 + s0).toNatClampNeg v)))), (mJ, .inl (cI, 4, .inl (k4i (s0 + 1) j1 j2 j3))), (mS, .inl (cI, 4, .inl (k4i (s0 + 1) s1 s2 s3)))] H := hP
      have hD : va_D A [(m0, .inr (8, [.ref mH, .int aM, .long aC, .int mM, .long mQ, .int oV, .int pL, .int lI, .int sW, .int dP, .int sT, .long aT, .int cH, .int iW, .ref mI, .ref mJ, .ref mS, .ref mD, .int iH, .int aE, .int mN, .long sZ, .ref mX, .int tS, .int tA, .int tW, .ref mA, .ref mB, .ref mW, .ref mL, .int lS])), (mI, .inl (cL, 1200, .inr (.inl (vp_updL fI (0 + s0).toNatClampNeg v)))), (mJ, .inl (cI, 4, .inl (k4i (s0 + 1) j1 j2 j3))), (mS, .inl (cI, 4, .inl (k4i (s0 + 1) s1 s2 s3)))] := hD
      refine lv_iconst (v := 1) hx hb dX8_puts_54 (by decide) ?_
      refine kIret (u := ((vp_updL fI (0 + s0).toNatClampNeg v), (s0 + 1), j1, j2, j3, (s0 + 1), s1, s2, s3)) hx hb hr rfl hlocks hS dX8_puts_55 ?_ (hP.sub [0, 1, 2, 3] rfl) (hD.sub [0, 1, 2, 3] (by decide) rfl)
      try dsimp only
      repeat' (with_reducible apply And.intro)
      all_goals first | with_reducible assumption | ((try simp only [jT_, jP_, jD_, jC_, jB_, jW_, Int32.reduceToInt, Int64.reduceToInt, true_or, or_true, true_and, and_true]) <;> omega)
    · have t_9_1 := c_9_1
      try simp only [kb_eq0, kb_ne0, lg_cmp_lt, lg_cmp_le, lg_cmp_gt, lg_cmp_ge, lg_cmp_eq] at t_9_1
      try simp only [Int32.lt_iff_toInt_lt, Int32.le_iff_toInt_le, ← Int32.toInt_inj, Int64.lt_iff_toInt_lt, Int64.le_iff_toInt_le, ← Int64.toInt_inj, Int32.toInt_toInt64, Int32.reduceToInt, Int64.reduceToInt] at t_9_1
      refine lv_iconst (v := 0) hx hb dX8_puts_12 (by decide) ?_
      refine kIret (u := (fI, j0, j1, j2, j3, s0, s1, s2, s3)) hx hb hr rfl hlocks hS dX8_puts_13 ?_ (hP.sub [0, 1, 2, 3] rfl) (hD.sub [0, 1, 2, 3] (by decide) rfl)
      try dsimp only
      repeat' (with_reducible apply And.intro)
      all_goals first | with_reducible assumption | ((try simp only [jT_, jP_, jD_, jC_, jB_, jW_, Int32.reduceToInt, Int64.reduceToInt, true_or, or_true, true_and, and_true]) <;> omega)
  · have hu1 : 0 ≤ s1.toInt ∧ s1.toInt ≤ j1.toInt ∧ j1.toInt ≤ 300 := ht1
    have hs1 := k_addg (a := s1) (b := 1) (by omega) (by decide)
    simp only [Int32.reduceToInt] at hs1
    refine lv_aload_n hx hb dX8_puts_0 rfl (lv_at hl 0 rfl) ?_
    refine va_get (D := D) (ci := 8) (v := .ref mS) (C := RX8) (T := TX8) (N := 31) hx hb hts iX8_puts_X8 hown hK hP 0 rfl rfl 16 (by decide) (hts (.fieldLink RX8 20 "TapeCalculatorModel" "stands" "[I") (List.mem_of_getElem? (i := 1) rfl)) (fun _ h9 => h9) rfl dX8_puts_1 ?_
    refine lv_iload_n hx hb dX8_puts_4 rfl (lv_at hl 1 rfl) ?_
    refine va_iald hx hb hK hP 3 0 rfl rfl (vp_in_iff.mpr (by decide)) dX8_puts_5 ?_
    refine lv_topi (fun x_7 ex_7 => ?_)
    obtain rfl : s1 = x_7 := ex_7.symm
    refine lv_sipush (v := 300) hx hb dX8_puts_6 (by decide) ?_
    refine lv_icmp_ne (tgt := 14) hx hb dX8_puts_9 (by decide) (fun c_9_7 => ?_) (fun c_9_7 => ?_)
    · have t_9_7 := c_9_7
      try simp only [kb_eq0, kb_ne0, lg_cmp_lt, lg_cmp_le, lg_cmp_gt, lg_cmp_ge, lg_cmp_eq] at t_9_7
      try simp only [Int32.lt_iff_toInt_lt, Int32.le_iff_toInt_le, ← Int32.toInt_inj, Int64.lt_iff_toInt_lt, Int64.le_iff_toInt_le, ← Int64.toInt_inj, Int32.toInt_toInt64, Int32.reduceToInt, Int64.reduceToInt] at t_9_7
      refine lv_aload_n hx hb dX8_puts_14 rfl (lv_at hl 0 rfl) ?_
      refine va_get (D := D) (ci := 8) (v := .ref mI) (C := RX8) (T := TX8) (N := 31) hx hb hts iX8_puts_X8 hown hK hP 0 rfl rfl 14 (by decide) (hts (.fieldLink RX8 13 "TapeCalculatorModel" "item" "[J") (List.mem_of_getElem? (i := 2) rfl)) (fun _ h9 => h9) rfl dX8_puts_15 ?_
      refine lv_sipush (v := 300) hx hb dX8_puts_18 (by decide) ?_
      refine lv_iload_n hx hb dX8_puts_21 rfl (lv_at hl 1 rfl) ?_
      refine lv_imul hx hb dX8_puts_22 ?_
      refine lv_topi (fun x_9 ex_9 => ?_)
      obtain rfl : x_9 = 300 := ex_9.trans (by decide)
      refine lv_aload_n hx hb dX8_puts_23 rfl (lv_at hl 0 rfl) ?_
      refine va_get (D := D) (ci := 8) (v := .ref mS) (C := RX8) (T := TX8) (N := 31) hx hb hts iX8_puts_X8 hown hK hP 0 rfl rfl 16 (by decide) (hts (.fieldLink RX8 20 "TapeCalculatorModel" "stands" "[I") (List.mem_of_getElem? (i := 1) rfl)) (fun _ h9 => h9) rfl dX8_puts_24 ?_
      refine lv_iload_n hx hb dX8_puts_27 rfl (lv_at hl 1 rfl) ?_
      refine va_iald hx hb hK hP 3 0 rfl rfl (vp_in_iff.mpr (by decide)) dX8_puts_28 ?_
      refine lv_topi (fun x_10 ex_10 => ?_)
      obtain rfl : s1 = x_10 := ex_10.symm
      refine lv_iadd hx hb dX8_puts_29 ?_
      refine lv_lload_n hx hb dX8_puts_30 rfl (lv_at hl 2 rfl) ?_
      refine va_last hx hb hK hP hD hS 1 1 rfl rfl (vp_in_iff.mpr (by have hx9 := k_addg (a := 300) (b := s1) (by decide) (by omega); simp only [Int32.reduceToInt] at hx9; omega)) dX8_puts_31 (fun H locs hP hD hS => ?_)
      have hP : va_P D vwCl [(m0, .inr (8, [.ref mH, .int aM, .long aC, .int mM, .long mQ, .int oV, .int pL, .int lI, .int sW, .int dP, .int sT, .long aT, .int cH, .int iW, .ref mI, .ref mJ, .ref mS, .ref mD, .int iH, .int aE, .int mN, .long sZ, .ref mX, .int tS, .int tA, .int tW, .ref mA, .ref mB, .ref mW, .ref mL, .int lS])), (mI, .inl (cL, 1200, .inr (.inl (vp_updL fI (300 + s1).toNatClampNeg v)))), (mJ, .inl (cI, 4, .inl (k4i j0 j1 j2 j3))), (mS, .inl (cI, 4, .inl (k4i s0 s1 s2 s3)))] H := hP
      have hD : va_D A [(m0, .inr (8, [.ref mH, .int aM, .long aC, .int mM, .long mQ, .int oV, .int pL, .int lI, .int sW, .int dP, .int sT, .long aT, .int cH, .int iW, .ref mI, .ref mJ, .ref mS, .ref mD, .int iH, .int aE, .int mN, .long sZ, .ref mX, .int tS, .int tA, .int tW, .ref mA, .ref mB, .ref mW, .ref mL, .int lS])), (mI, .inl (cL, 1200, .inr (.inl (vp_updL fI (300 + s1).toNatClampNeg v)))), (mJ, .inl (cI, 4, .inl (k4i j0 j1 j2 j3))), (mS, .inl (cI, 4, .inl (k4i s0 s1 s2 s3)))] := hD
      refine lv_aload_n hx hb dX8_puts_32 rfl (lv_at hl 0 rfl) ?_
      refine va_get (D := D) (ci := 8) (v := .ref mS) (C := RX8) (T := TX8) (N := 31) hx hb hts iX8_puts_X8 hown hK hP 0 rfl rfl 16 (by decide) (hts (.fieldLink RX8 20 "TapeCalculatorModel" "stands" "[I") (List.mem_of_getElem? (i := 1) rfl)) (fun _ h9 => h9) rfl dX8_puts_33 ?_
      refine lv_iload_n hx hb dX8_puts_36 rfl (lv_at hl 1 rfl) ?_
      refine lv_dup2_11 hx hb dX8_puts_37 rfl rfl ?_
      refine va_iald hx hb hK hP 3 0 rfl rfl (vp_in_iff.mpr (by decide)) dX8_puts_38 ?_
      refine lv_topi (fun x_11 ex_11 => ?_)
      obtain rfl : s1 = x_11 := ex_11.symm
      refine lv_iconst (v := 1) hx hb dX8_puts_39 (by decide) ?_
      refine lv_iadd hx hb dX8_puts_40 ?_
      refine va_iast hx hb hK hP hD hS 3 0 rfl rfl (vp_in_iff.mpr (by decide)) dX8_puts_41 (fun H locs hP hD hS => ?_)
      rw [k4i_1] at hP hD
      have hP : va_P D vwCl [(m0, .inr (8, [.ref mH, .int aM, .long aC, .int mM, .long mQ, .int oV, .int pL, .int lI, .int sW, .int dP, .int sT, .long aT, .int cH, .int iW, .ref mI, .ref mJ, .ref mS, .ref mD, .int iH, .int aE, .int mN, .long sZ, .ref mX, .int tS, .int tA, .int tW, .ref mA, .ref mB, .ref mW, .ref mL, .int lS])), (mI, .inl (cL, 1200, .inr (.inl (vp_updL fI (300 + s1).toNatClampNeg v)))), (mJ, .inl (cI, 4, .inl (k4i j0 j1 j2 j3))), (mS, .inl (cI, 4, .inl (k4i s0 (s1 + 1) s2 s3)))] H := hP
      have hD : va_D A [(m0, .inr (8, [.ref mH, .int aM, .long aC, .int mM, .long mQ, .int oV, .int pL, .int lI, .int sW, .int dP, .int sT, .long aT, .int cH, .int iW, .ref mI, .ref mJ, .ref mS, .ref mD, .int iH, .int aE, .int mN, .long sZ, .ref mX, .int tS, .int tA, .int tW, .ref mA, .ref mB, .ref mW, .ref mL, .int lS])), (mI, .inl (cL, 1200, .inr (.inl (vp_updL fI (300 + s1).toNatClampNeg v)))), (mJ, .inl (cI, 4, .inl (k4i j0 j1 j2 j3))), (mS, .inl (cI, 4, .inl (k4i s0 (s1 + 1) s2 s3)))] := hD
      refine lv_aload_n hx hb dX8_puts_42 rfl (lv_at hl 0 rfl) ?_
      refine va_get (D := D) (ci := 8) (v := .ref mJ) (C := RX8) (T := TX8) (N := 31) hx hb hts iX8_puts_X8 hown hK hP 0 rfl rfl 15 (by decide) (hts (.fieldLink RX8 17 "TapeCalculatorModel" "items" "[I") (List.mem_of_getElem? (i := 3) rfl)) (fun _ h9 => h9) rfl dX8_puts_43 ?_
      refine lv_iload_n hx hb dX8_puts_46 rfl (lv_at hl 1 rfl) ?_
      refine lv_aload_n hx hb dX8_puts_47 rfl (lv_at hl 0 rfl) ?_
      refine va_get (D := D) (ci := 8) (v := .ref mS) (C := RX8) (T := TX8) (N := 31) hx hb hts iX8_puts_X8 hown hK hP 0 rfl rfl 16 (by decide) (hts (.fieldLink RX8 20 "TapeCalculatorModel" "stands" "[I") (List.mem_of_getElem? (i := 1) rfl)) (fun _ h9 => h9) rfl dX8_puts_48 ?_
      refine lv_iload_n hx hb dX8_puts_51 rfl (lv_at hl 1 rfl) ?_
      refine va_iald hx hb hK hP 3 0 rfl rfl (vp_in_iff.mpr (by decide)) dX8_puts_52 ?_
      refine lv_topi (fun x_12 ex_12 => ?_)
      obtain rfl : (s1 + 1) = x_12 := ex_12.symm
      refine va_iast hx hb hK hP hD hS 2 0 rfl rfl (vp_in_iff.mpr (by decide)) dX8_puts_53 (fun H locs hP hD hS => ?_)
      rw [k4i_1] at hP hD
      have hP : va_P D vwCl [(m0, .inr (8, [.ref mH, .int aM, .long aC, .int mM, .long mQ, .int oV, .int pL, .int lI, .int sW, .int dP, .int sT, .long aT, .int cH, .int iW, .ref mI, .ref mJ, .ref mS, .ref mD, .int iH, .int aE, .int mN, .long sZ, .ref mX, .int tS, .int tA, .int tW, .ref mA, .ref mB, .ref mW, .ref mL, .int lS])), (mI, .inl (cL, 1200, .inr (.inl (vp_updL fI (300 + s1).toNatClampNeg v)))), (mJ, .inl (cI, 4, .inl (k4i j0 (s1 + 1) j2 j3))), (mS, .inl (cI, 4, .inl (k4i s0 (s1 + 1) s2 s3)))] H := hP
      have hD : va_D A [(m0, .inr (8, [.ref mH, .int aM, .long aC, .int mM, .long mQ, .int oV, .int pL, .int lI, .int sW, .int dP, .int sT, .long aT, .int cH, .int iW, .ref mI, .ref mJ, .ref mS, .ref mD, .int iH, .int aE, .int mN, .long sZ, .ref mX, .int tS, .int tA, .int tW, .ref mA, .ref mB, .ref mW, .ref mL, .int lS])), (mI, .inl (cL, 1200, .inr (.inl (vp_updL fI (300 + s1).toNatClampNeg v)))), (mJ, .inl (cI, 4, .inl (k4i j0 (s1 + 1) j2 j3))), (mS, .inl (cI, 4, .inl (k4i s0 (s1 + 1) s2 s3)))] := hD
      refine lv_iconst (v := 1) hx hb dX8_puts_54 (by decide) ?_
      refine kIret (u := ((vp_updL fI (300 + s1).toNatClampNeg v), j0, (s1 + 1), j2, j3, s0, (s1 + 1), s2, s3)) hx hb hr rfl hlocks hS dX8_puts_55 ?_ (hP.sub [0, 1, 2, 3] rfl) (hD.sub [0, 1, 2, 3] (by decide) rfl)
      try dsimp only
      repeat' (with_reducible apply And.intro)
      all_goals first | with_reducible assumption | ((try simp only [jT_, jP_, jD_, jC_, jB_, jW_, Int32.reduceToInt, Int64.reduceToInt, true_or, or_true, true_and, and_true]) <;> omega)
    · have t_9_7 := c_9_7
      try simp only [kb_eq0, kb_ne0, lg_cmp_lt, lg_cmp_le, lg_cmp_gt, lg_cmp_ge, lg_cmp_eq] at t_9_7
      try simp only [Int32.lt_iff_toInt_lt, Int32.le_iff_toInt_le, ← Int32.toInt_inj, Int64.lt_iff_toInt_lt, Int64.le_iff_toInt_le, ← Int64.toInt_inj, Int32.toInt_toInt64, Int32.reduceToInt, Int64.reduceToInt] at t_9_7
      refine lv_iconst (v := 0) hx hb dX8_puts_12 (by decide) ?_
      refine kIret (u := (fI, j0, j1, j2, j3, s0, s1, s2, s3)) hx hb hr rfl hlocks hS dX8_puts_13 ?_ (hP.sub [0, 1, 2, 3] rfl) (hD.sub [0, 1, 2, 3] (by decide) rfl)
      try dsimp only
      repeat' (with_reducible apply And.intro)
      all_goals first | with_reducible assumption | ((try simp only [jT_, jP_, jD_, jC_, jB_, jW_, Int32.reduceToInt, Int64.reduceToInt, true_or, or_true, true_and, and_true]) <;> omega)
  · have hu2 : 0 ≤ s2.toInt ∧ s2.toInt ≤ j2.toInt ∧ j2.toInt ≤ 300 := ht2
    have hs1 := k_addg (a := s2) (b := 1) (by omega) (by decide)
    simp only [Int32.reduceToInt] at hs1
    refine lv_aload_n hx hb dX8_puts_0 rfl (lv_at hl 0 rfl) ?_
    refine va_get (D := D) (ci := 8) (v := .ref mS) (C := RX8) (T := TX8) (N := 31) hx hb hts iX8_puts_X8 hown hK hP 0 rfl rfl 16 (by decide) (hts (.fieldLink RX8 20 "TapeCalculatorModel" "stands" "[I") (List.mem_of_getElem? (i := 1) rfl)) (fun _ h9 => h9) rfl dX8_puts_1 ?_
    refine lv_iload_n hx hb dX8_puts_4 rfl (lv_at hl 1 rfl) ?_
    refine va_iald hx hb hK hP 3 0 rfl rfl (vp_in_iff.mpr (by decide)) dX8_puts_5 ?_
    refine lv_topi (fun x_13 ex_13 => ?_)
    obtain rfl : s2 = x_13 := ex_13.symm
    refine lv_sipush (v := 300) hx hb dX8_puts_6 (by decide) ?_
    refine lv_icmp_ne (tgt := 14) hx hb dX8_puts_9 (by decide) (fun c_9_13 => ?_) (fun c_9_13 => ?_)
    · have t_9_13 := c_9_13
      try simp only [kb_eq0, kb_ne0, lg_cmp_lt, lg_cmp_le, lg_cmp_gt, lg_cmp_ge, lg_cmp_eq] at t_9_13
      try simp only [Int32.lt_iff_toInt_lt, Int32.le_iff_toInt_le, ← Int32.toInt_inj, Int64.lt_iff_toInt_lt, Int64.le_iff_toInt_le, ← Int64.toInt_inj, Int32.toInt_toInt64, Int32.reduceToInt, Int64.reduceToInt] at t_9_13
      refine lv_aload_n hx hb dX8_puts_14 rfl (lv_at hl 0 rfl) ?_
      refine va_get (D := D) (ci := 8) (v := .ref mI) (C := RX8) (T := TX8) (N := 31) hx hb hts iX8_puts_X8 hown hK hP 0 rfl rfl 14 (by decide) (hts (.fieldLink RX8 13 "TapeCalculatorModel" "item" "[J") (List.mem_of_getElem? (i := 2) rfl)) (fun _ h9 => h9) rfl dX8_puts_15 ?_
      refine lv_sipush (v := 300) hx hb dX8_puts_18 (by decide) ?_
      refine lv_iload_n hx hb dX8_puts_21 rfl (lv_at hl 1 rfl) ?_
      refine lv_imul hx hb dX8_puts_22 ?_
      refine lv_topi (fun x_15 ex_15 => ?_)
      obtain rfl : x_15 = 600 := ex_15.trans (by decide)
      refine lv_aload_n hx hb dX8_puts_23 rfl (lv_at hl 0 rfl) ?_
      refine va_get (D := D) (ci := 8) (v := .ref mS) (C := RX8) (T := TX8) (N := 31) hx hb hts iX8_puts_X8 hown hK hP 0 rfl rfl 16 (by decide) (hts (.fieldLink RX8 20 "TapeCalculatorModel" "stands" "[I") (List.mem_of_getElem? (i := 1) rfl)) (fun _ h9 => h9) rfl dX8_puts_24 ?_
      refine lv_iload_n hx hb dX8_puts_27 rfl (lv_at hl 1 rfl) ?_
      refine va_iald hx hb hK hP 3 0 rfl rfl (vp_in_iff.mpr (by decide)) dX8_puts_28 ?_
      refine lv_topi (fun x_16 ex_16 => ?_)
      obtain rfl : s2 = x_16 := ex_16.symm
      refine lv_iadd hx hb dX8_puts_29 ?_
      refine lv_lload_n hx hb dX8_puts_30 rfl (lv_at hl 2 rfl) ?_
      refine va_last hx hb hK hP hD hS 1 1 rfl rfl (vp_in_iff.mpr (by have hx9 := k_addg (a := 600) (b := s2) (by decide) (by omega); simp only [Int32.reduceToInt] at hx9; omega)) dX8_puts_31 (fun H locs hP hD hS => ?_)
      have hP : va_P D vwCl [(m0, .inr (8, [.ref mH, .int aM, .long aC, .int mM, .long mQ, .int oV, .int pL, .int lI, .int sW, .int dP, .int sT, .long aT, .int cH, .int iW, .ref mI, .ref mJ, .ref mS, .ref mD, .int iH, .int aE, .int mN, .long sZ, .ref mX, .int tS, .int tA, .int tW, .ref mA, .ref mB, .ref mW, .ref mL, .int lS])), (mI, .inl (cL, 1200, .inr (.inl (vp_updL fI (600 + s2).toNatClampNeg v)))), (mJ, .inl (cI, 4, .inl (k4i j0 j1 j2 j3))), (mS, .inl (cI, 4, .inl (k4i s0 s1 s2 s3)))] H := hP
      have hD : va_D A [(m0, .inr (8, [.ref mH, .int aM, .long aC, .int mM, .long mQ, .int oV, .int pL, .int lI, .int sW, .int dP, .int sT, .long aT, .int cH, .int iW, .ref mI, .ref mJ, .ref mS, .ref mD, .int iH, .int aE, .int mN, .long sZ, .ref mX, .int tS, .int tA, .int tW, .ref mA, .ref mB, .ref mW, .ref mL, .int lS])), (mI, .inl (cL, 1200, .inr (.inl (vp_updL fI (600 + s2).toNatClampNeg v)))), (mJ, .inl (cI, 4, .inl (k4i j0 j1 j2 j3))), (mS, .inl (cI, 4, .inl (k4i s0 s1 s2 s3)))] := hD
      refine lv_aload_n hx hb dX8_puts_32 rfl (lv_at hl 0 rfl) ?_
      refine va_get (D := D) (ci := 8) (v := .ref mS) (C := RX8) (T := TX8) (N := 31) hx hb hts iX8_puts_X8 hown hK hP 0 rfl rfl 16 (by decide) (hts (.fieldLink RX8 20 "TapeCalculatorModel" "stands" "[I") (List.mem_of_getElem? (i := 1) rfl)) (fun _ h9 => h9) rfl dX8_puts_33 ?_
      refine lv_iload_n hx hb dX8_puts_36 rfl (lv_at hl 1 rfl) ?_
      refine lv_dup2_11 hx hb dX8_puts_37 rfl rfl ?_
      refine va_iald hx hb hK hP 3 0 rfl rfl (vp_in_iff.mpr (by decide)) dX8_puts_38 ?_
      refine lv_topi (fun x_17 ex_17 => ?_)
      obtain rfl : s2 = x_17 := ex_17.symm
      refine lv_iconst (v := 1) hx hb dX8_puts_39 (by decide) ?_
      refine lv_iadd hx hb dX8_puts_40 ?_
      refine va_iast hx hb hK hP hD hS 3 0 rfl rfl (vp_in_iff.mpr (by decide)) dX8_puts_41 (fun H locs hP hD hS => ?_)
      rw [k4i_2] at hP hD
      have hP : va_P D vwCl [(m0, .inr (8, [.ref mH, .int aM, .long aC, .int mM, .long mQ, .int oV, .int pL, .int lI, .int sW, .int dP, .int sT, .long aT, .int cH, .int iW, .ref mI, .ref mJ, .ref mS, .ref mD, .int iH, .int aE, .int mN, .long sZ, .ref mX, .int tS, .int tA, .int tW, .ref mA, .ref mB, .ref mW, .ref mL, .int lS])), (mI, .inl (cL, 1200, .inr (.inl (vp_updL fI (600 + s2).toNatClampNeg v)))), (mJ, .inl (cI, 4, .inl (k4i j0 j1 j2 j3))), (mS, .inl (cI, 4, .inl (k4i s0 s1 (s2 + 1) s3)))] H := hP
      have hD : va_D A [(m0, .inr (8, [.ref mH, .int aM, .long aC, .int mM, .long mQ, .int oV, .int pL, .int lI, .int sW, .int dP, .int sT, .long aT, .int cH, .int iW, .ref mI, .ref mJ, .ref mS, .ref mD, .int iH, .int aE, .int mN, .long sZ, .ref mX, .int tS, .int tA, .int tW, .ref mA, .ref mB, .ref mW, .ref mL, .int lS])), (mI, .inl (cL, 1200, .inr (.inl (vp_updL fI (600 + s2).toNatClampNeg v)))), (mJ, .inl (cI, 4, .inl (k4i j0 j1 j2 j3))), (mS, .inl (cI, 4, .inl (k4i s0 s1 (s2 + 1) s3)))] := hD
      refine lv_aload_n hx hb dX8_puts_42 rfl (lv_at hl 0 rfl) ?_
      refine va_get (D := D) (ci := 8) (v := .ref mJ) (C := RX8) (T := TX8) (N := 31) hx hb hts iX8_puts_X8 hown hK hP 0 rfl rfl 15 (by decide) (hts (.fieldLink RX8 17 "TapeCalculatorModel" "items" "[I") (List.mem_of_getElem? (i := 3) rfl)) (fun _ h9 => h9) rfl dX8_puts_43 ?_
      refine lv_iload_n hx hb dX8_puts_46 rfl (lv_at hl 1 rfl) ?_
      refine lv_aload_n hx hb dX8_puts_47 rfl (lv_at hl 0 rfl) ?_
      refine va_get (D := D) (ci := 8) (v := .ref mS) (C := RX8) (T := TX8) (N := 31) hx hb hts iX8_puts_X8 hown hK hP 0 rfl rfl 16 (by decide) (hts (.fieldLink RX8 20 "TapeCalculatorModel" "stands" "[I") (List.mem_of_getElem? (i := 1) rfl)) (fun _ h9 => h9) rfl dX8_puts_48 ?_
      refine lv_iload_n hx hb dX8_puts_51 rfl (lv_at hl 1 rfl) ?_
      refine va_iald hx hb hK hP 3 0 rfl rfl (vp_in_iff.mpr (by decide)) dX8_puts_52 ?_
      refine lv_topi (fun x_18 ex_18 => ?_)
      obtain rfl : (s2 + 1) = x_18 := ex_18.symm
      refine va_iast hx hb hK hP hD hS 2 0 rfl rfl (vp_in_iff.mpr (by decide)) dX8_puts_53 (fun H locs hP hD hS => ?_)
      rw [k4i_2] at hP hD
      have hP : va_P D vwCl [(m0, .inr (8, [.ref mH, .int aM, .long aC, .int mM, .long mQ, .int oV, .int pL, .int lI, .int sW, .int dP, .int sT, .long aT, .int cH, .int iW, .ref mI, .ref mJ, .ref mS, .ref mD, .int iH, .int aE, .int mN, .long sZ, .ref mX, .int tS, .int tA, .int tW, .ref mA, .ref mB, .ref mW, .ref mL, .int lS])), (mI, .inl (cL, 1200, .inr (.inl (vp_updL fI (600 + s2).toNatClampNeg v)))), (mJ, .inl (cI, 4, .inl (k4i j0 j1 (s2 + 1) j3))), (mS, .inl (cI, 4, .inl (k4i s0 s1 (s2 + 1) s3)))] H := hP
      have hD : va_D A [(m0, .inr (8, [.ref mH, .int aM, .long aC, .int mM, .long mQ, .int oV, .int pL, .int lI, .int sW, .int dP, .int sT, .long aT, .int cH, .int iW, .ref mI, .ref mJ, .ref mS, .ref mD, .int iH, .int aE, .int mN, .long sZ, .ref mX, .int tS, .int tA, .int tW, .ref mA, .ref mB, .ref mW, .ref mL, .int lS])), (mI, .inl (cL, 1200, .inr (.inl (vp_updL fI (600 + s2).toNatClampNeg v)))), (mJ, .inl (cI, 4, .inl (k4i j0 j1 (s2 + 1) j3))), (mS, .inl (cI, 4, .inl (k4i s0 s1 (s2 + 1) s3)))] := hD
      refine lv_iconst (v := 1) hx hb dX8_puts_54 (by decide) ?_
      refine kIret (u := ((vp_updL fI (600 + s2).toNatClampNeg v), j0, j1, (s2 + 1), j3, s0, s1, (s2 + 1), s3)) hx hb hr rfl hlocks hS dX8_puts_55 ?_ (hP.sub [0, 1, 2, 3] rfl) (hD.sub [0, 1, 2, 3] (by decide) rfl)
      try dsimp only
      repeat' (with_reducible apply And.intro)
      all_goals first | with_reducible assumption | ((try simp only [jT_, jP_, jD_, jC_, jB_, jW_, Int32.reduceToInt, Int64.reduceToInt, true_or, or_true, true_and, and_true]) <;> omega)
    · have t_9_13 := c_9_13
      try simp only [kb_eq0, kb_ne0, lg_cmp_lt, lg_cmp_le, lg_cmp_gt, lg_cmp_ge, lg_cmp_eq] at t_9_13
      try simp only [Int32.lt_iff_toInt_lt, Int32.le_iff_toInt_le, ← Int32.toInt_inj, Int64.lt_iff_toInt_lt, Int64.le_iff_toInt_le, ← Int64.toInt_inj, Int32.toInt_toInt64, Int32.reduceToInt, Int64.reduceToInt] at t_9_13
      refine lv_iconst (v := 0) hx hb dX8_puts_12 (by decide) ?_
      refine kIret (u := (fI, j0, j1, j2, j3, s0, s1, s2, s3)) hx hb hr rfl hlocks hS dX8_puts_13 ?_ (hP.sub [0, 1, 2, 3] rfl) (hD.sub [0, 1, 2, 3] (by decide) rfl)
      try dsimp only
      repeat' (with_reducible apply And.intro)
      all_goals first | with_reducible assumption | ((try simp only [jT_, jP_, jD_, jC_, jB_, jW_, Int32.reduceToInt, Int64.reduceToInt, true_or, or_true, true_and, and_true]) <;> omega)
  · have hu3 : 0 ≤ s3.toInt ∧ s3.toInt ≤ j3.toInt ∧ j3.toInt ≤ 300 := ht3
    have hs1 := k_addg (a := s3) (b := 1) (by omega) (by decide)
    simp only [Int32.reduceToInt] at hs1
    refine lv_aload_n hx hb dX8_puts_0 rfl (lv_at hl 0 rfl) ?_
    refine va_get (D := D) (ci := 8) (v := .ref mS) (C := RX8) (T := TX8) (N := 31) hx hb hts iX8_puts_X8 hown hK hP 0 rfl rfl 16 (by decide) (hts (.fieldLink RX8 20 "TapeCalculatorModel" "stands" "[I") (List.mem_of_getElem? (i := 1) rfl)) (fun _ h9 => h9) rfl dX8_puts_1 ?_
    refine lv_iload_n hx hb dX8_puts_4 rfl (lv_at hl 1 rfl) ?_
    refine va_iald hx hb hK hP 3 0 rfl rfl (vp_in_iff.mpr (by decide)) dX8_puts_5 ?_
    refine lv_topi (fun x_19 ex_19 => ?_)
    obtain rfl : s3 = x_19 := ex_19.symm
    refine lv_sipush (v := 300) hx hb dX8_puts_6 (by decide) ?_
    refine lv_icmp_ne (tgt := 14) hx hb dX8_puts_9 (by decide) (fun c_9_19 => ?_) (fun c_9_19 => ?_)
    · have t_9_19 := c_9_19
      try simp only [kb_eq0, kb_ne0, lg_cmp_lt, lg_cmp_le, lg_cmp_gt, lg_cmp_ge, lg_cmp_eq] at t_9_19
      try simp only [Int32.lt_iff_toInt_lt, Int32.le_iff_toInt_le, ← Int32.toInt_inj, Int64.lt_iff_toInt_lt, Int64.le_iff_toInt_le, ← Int64.toInt_inj, Int32.toInt_toInt64, Int32.reduceToInt, Int64.reduceToInt] at t_9_19
      refine lv_aload_n hx hb dX8_puts_14 rfl (lv_at hl 0 rfl) ?_
      refine va_get (D := D) (ci := 8) (v := .ref mI) (C := RX8) (T := TX8) (N := 31) hx hb hts iX8_puts_X8 hown hK hP 0 rfl rfl 14 (by decide) (hts (.fieldLink RX8 13 "TapeCalculatorModel" "item" "[J") (List.mem_of_getElem? (i := 2) rfl)) (fun _ h9 => h9) rfl dX8_puts_15 ?_
      refine lv_sipush (v := 300) hx hb dX8_puts_18 (by decide) ?_
      refine lv_iload_n hx hb dX8_puts_21 rfl (lv_at hl 1 rfl) ?_
      refine lv_imul hx hb dX8_puts_22 ?_
      refine lv_topi (fun x_21 ex_21 => ?_)
      obtain rfl : x_21 = 900 := ex_21.trans (by decide)
      refine lv_aload_n hx hb dX8_puts_23 rfl (lv_at hl 0 rfl) ?_
      refine va_get (D := D) (ci := 8) (v := .ref mS) (C := RX8) (T := TX8) (N := 31) hx hb hts iX8_puts_X8 hown hK hP 0 rfl rfl 16 (by decide) (hts (.fieldLink RX8 20 "TapeCalculatorModel" "stands" "[I") (List.mem_of_getElem? (i := 1) rfl)) (fun _ h9 => h9) rfl dX8_puts_24 ?_
      refine lv_iload_n hx hb dX8_puts_27 rfl (lv_at hl 1 rfl) ?_
      refine va_iald hx hb hK hP 3 0 rfl rfl (vp_in_iff.mpr (by decide)) dX8_puts_28 ?_
      refine lv_topi (fun x_22 ex_22 => ?_)
      obtain rfl : s3 = x_22 := ex_22.symm
      refine lv_iadd hx hb dX8_puts_29 ?_
      refine lv_lload_n hx hb dX8_puts_30 rfl (lv_at hl 2 rfl) ?_
      refine va_last hx hb hK hP hD hS 1 1 rfl rfl (vp_in_iff.mpr (by have hx9 := k_addg (a := 900) (b := s3) (by decide) (by omega); simp only [Int32.reduceToInt] at hx9; omega)) dX8_puts_31 (fun H locs hP hD hS => ?_)
      have hP : va_P D vwCl [(m0, .inr (8, [.ref mH, .int aM, .long aC, .int mM, .long mQ, .int oV, .int pL, .int lI, .int sW, .int dP, .int sT, .long aT, .int cH, .int iW, .ref mI, .ref mJ, .ref mS, .ref mD, .int iH, .int aE, .int mN, .long sZ, .ref mX, .int tS, .int tA, .int tW, .ref mA, .ref mB, .ref mW, .ref mL, .int lS])), (mI, .inl (cL, 1200, .inr (.inl (vp_updL fI (900 + s3).toNatClampNeg v)))), (mJ, .inl (cI, 4, .inl (k4i j0 j1 j2 j3))), (mS, .inl (cI, 4, .inl (k4i s0 s1 s2 s3)))] H := hP
      have hD : va_D A [(m0, .inr (8, [.ref mH, .int aM, .long aC, .int mM, .long mQ, .int oV, .int pL, .int lI, .int sW, .int dP, .int sT, .long aT, .int cH, .int iW, .ref mI, .ref mJ, .ref mS, .ref mD, .int iH, .int aE, .int mN, .long sZ, .ref mX, .int tS, .int tA, .int tW, .ref mA, .ref mB, .ref mW, .ref mL, .int lS])), (mI, .inl (cL, 1200, .inr (.inl (vp_updL fI (900 + s3).toNatClampNeg v)))), (mJ, .inl (cI, 4, .inl (k4i j0 j1 j2 j3))), (mS, .inl (cI, 4, .inl (k4i s0 s1 s2 s3)))] := hD
      refine lv_aload_n hx hb dX8_puts_32 rfl (lv_at hl 0 rfl) ?_
      refine va_get (D := D) (ci := 8) (v := .ref mS) (C := RX8) (T := TX8) (N := 31) hx hb hts iX8_puts_X8 hown hK hP 0 rfl rfl 16 (by decide) (hts (.fieldLink RX8 20 "TapeCalculatorModel" "stands" "[I") (List.mem_of_getElem? (i := 1) rfl)) (fun _ h9 => h9) rfl dX8_puts_33 ?_
      refine lv_iload_n hx hb dX8_puts_36 rfl (lv_at hl 1 rfl) ?_
      refine lv_dup2_11 hx hb dX8_puts_37 rfl rfl ?_
      refine va_iald hx hb hK hP 3 0 rfl rfl (vp_in_iff.mpr (by decide)) dX8_puts_38 ?_
      refine lv_topi (fun x_23 ex_23 => ?_)
      obtain rfl : s3 = x_23 := ex_23.symm
      refine lv_iconst (v := 1) hx hb dX8_puts_39 (by decide) ?_
      refine lv_iadd hx hb dX8_puts_40 ?_
      refine va_iast hx hb hK hP hD hS 3 0 rfl rfl (vp_in_iff.mpr (by decide)) dX8_puts_41 (fun H locs hP hD hS => ?_)
      rw [k4i_3] at hP hD
      have hP : va_P D vwCl [(m0, .inr (8, [.ref mH, .int aM, .long aC, .int mM, .long mQ, .int oV, .int pL, .int lI, .int sW, .int dP, .int sT, .long aT, .int cH, .int iW, .ref mI, .ref mJ, .ref mS, .ref mD, .int iH, .int aE, .int mN, .long sZ, .ref mX, .int tS, .int tA, .int tW, .ref mA, .ref mB, .ref mW, .ref mL, .int lS])), (mI, .inl (cL, 1200, .inr (.inl (vp_updL fI (900 + s3).toNatClampNeg v)))), (mJ, .inl (cI, 4, .inl (k4i j0 j1 j2 j3))), (mS, .inl (cI, 4, .inl (k4i s0 s1 s2 (s3 + 1))))] H := hP
      have hD : va_D A [(m0, .inr (8, [.ref mH, .int aM, .long aC, .int mM, .long mQ, .int oV, .int pL, .int lI, .int sW, .int dP, .int sT, .long aT, .int cH, .int iW, .ref mI, .ref mJ, .ref mS, .ref mD, .int iH, .int aE, .int mN, .long sZ, .ref mX, .int tS, .int tA, .int tW, .ref mA, .ref mB, .ref mW, .ref mL, .int lS])), (mI, .inl (cL, 1200, .inr (.inl (vp_updL fI (900 + s3).toNatClampNeg v)))), (mJ, .inl (cI, 4, .inl (k4i j0 j1 j2 j3))), (mS, .inl (cI, 4, .inl (k4i s0 s1 s2 (s3 + 1))))] := hD
      refine lv_aload_n hx hb dX8_puts_42 rfl (lv_at hl 0 rfl) ?_
      refine va_get (D := D) (ci := 8) (v := .ref mJ) (C := RX8) (T := TX8) (N := 31) hx hb hts iX8_puts_X8 hown hK hP 0 rfl rfl 15 (by decide) (hts (.fieldLink RX8 17 "TapeCalculatorModel" "items" "[I") (List.mem_of_getElem? (i := 3) rfl)) (fun _ h9 => h9) rfl dX8_puts_43 ?_
      refine lv_iload_n hx hb dX8_puts_46 rfl (lv_at hl 1 rfl) ?_
      refine lv_aload_n hx hb dX8_puts_47 rfl (lv_at hl 0 rfl) ?_
      refine va_get (D := D) (ci := 8) (v := .ref mS) (C := RX8) (T := TX8) (N := 31) hx hb hts iX8_puts_X8 hown hK hP 0 rfl rfl 16 (by decide) (hts (.fieldLink RX8 20 "TapeCalculatorModel" "stands" "[I") (List.mem_of_getElem? (i := 1) rfl)) (fun _ h9 => h9) rfl dX8_puts_48 ?_
      refine lv_iload_n hx hb dX8_puts_51 rfl (lv_at hl 1 rfl) ?_
      refine va_iald hx hb hK hP 3 0 rfl rfl (vp_in_iff.mpr (by decide)) dX8_puts_52 ?_
      refine lv_topi (fun x_24 ex_24 => ?_)
      obtain rfl : (s3 + 1) = x_24 := ex_24.symm
      refine va_iast hx hb hK hP hD hS 2 0 rfl rfl (vp_in_iff.mpr (by decide)) dX8_puts_53 (fun H locs hP hD hS => ?_)
      rw [k4i_3] at hP hD
      have hP : va_P D vwCl [(m0, .inr (8, [.ref mH, .int aM, .long aC, .int mM, .long mQ, .int oV, .int pL, .int lI, .int sW, .int dP, .int sT, .long aT, .int cH, .int iW, .ref mI, .ref mJ, .ref mS, .ref mD, .int iH, .int aE, .int mN, .long sZ, .ref mX, .int tS, .int tA, .int tW, .ref mA, .ref mB, .ref mW, .ref mL, .int lS])), (mI, .inl (cL, 1200, .inr (.inl (vp_updL fI (900 + s3).toNatClampNeg v)))), (mJ, .inl (cI, 4, .inl (k4i j0 j1 j2 (s3 + 1)))), (mS, .inl (cI, 4, .inl (k4i s0 s1 s2 (s3 + 1))))] H := hP
      have hD : va_D A [(m0, .inr (8, [.ref mH, .int aM, .long aC, .int mM, .long mQ, .int oV, .int pL, .int lI, .int sW, .int dP, .int sT, .long aT, .int cH, .int iW, .ref mI, .ref mJ, .ref mS, .ref mD, .int iH, .int aE, .int mN, .long sZ, .ref mX, .int tS, .int tA, .int tW, .ref mA, .ref mB, .ref mW, .ref mL, .int lS])), (mI, .inl (cL, 1200, .inr (.inl (vp_updL fI (900 + s3).toNatClampNeg v)))), (mJ, .inl (cI, 4, .inl (k4i j0 j1 j2 (s3 + 1)))), (mS, .inl (cI, 4, .inl (k4i s0 s1 s2 (s3 + 1))))] := hD
      refine lv_iconst (v := 1) hx hb dX8_puts_54 (by decide) ?_
      refine kIret (u := ((vp_updL fI (900 + s3).toNatClampNeg v), j0, j1, j2, (s3 + 1), s0, s1, s2, (s3 + 1))) hx hb hr rfl hlocks hS dX8_puts_55 ?_ (hP.sub [0, 1, 2, 3] rfl) (hD.sub [0, 1, 2, 3] (by decide) rfl)
      try dsimp only
      repeat' (with_reducible apply And.intro)
      all_goals first | with_reducible assumption | ((try simp only [jT_, jP_, jD_, jC_, jB_, jW_, Int32.reduceToInt, Int64.reduceToInt, true_or, or_true, true_and, and_true]) <;> omega)
    · have t_9_19 := c_9_19
      try simp only [kb_eq0, kb_ne0, lg_cmp_lt, lg_cmp_le, lg_cmp_gt, lg_cmp_ge, lg_cmp_eq] at t_9_19
      try simp only [Int32.lt_iff_toInt_lt, Int32.le_iff_toInt_le, ← Int32.toInt_inj, Int64.lt_iff_toInt_lt, Int64.le_iff_toInt_le, ← Int64.toInt_inj, Int32.toInt_toInt64, Int32.reduceToInt, Int64.reduceToInt] at t_9_19
      refine lv_iconst (v := 0) hx hb dX8_puts_12 (by decide) ?_
      refine kIret (u := (fI, j0, j1, j2, j3, s0, s1, s2, s3)) hx hb hr rfl hlocks hS dX8_puts_13 ?_ (hP.sub [0, 1, 2, 3] rfl) (hD.sub [0, 1, 2, 3] (by decide) rfl)
      try dsimp only
      repeat' (with_reducible apply And.intro)
      all_goals first | with_reducible assumption | ((try simp only [jT_, jP_, jD_, jC_, jB_, jW_, Int32.reduceToInt, Int64.reduceToInt, true_or, or_true, true_and, and_true]) <;> omega)
