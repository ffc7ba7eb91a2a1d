set_option maxRecDepth 100000 in
theorem iX8_readLine_X8 : ∀ w ∈ wsX80, w ∈ wsX8_readLine := fun w h => (goodIn_r (big := wsX8_readLine) wsX80 [40, 41, 42, 43, 44, 45, 46, 47, 48, 49, 50, 51, 52, 53, 54, 55, 56, 57, 58, 59, 60, 61, 62, 63, 64, 65, 66, 67, 68, 69, 70] rfl (by decide +kernel) w h).1
set_option maxRecDepth 100000 in
set_option maxHeartbeats 4000000 in
theorem q_readLine (l : Launch) (D : va_G) (cI cL cB cZ cT : ClassId) (sz : Nat) (m0 mH mI mJ mS mD mX mA mB mW mL : Nat) (aM : Int32) (aC : Int64) (mM : Int32) (mQ : Int64) (oV pL lI sW dP sT : Int32) (aT : Int64) (cH iW iH aE mN : Int32) (sZ : Int64) (tS tA tW lS : Int32) (fX : Nat → Int32) (fA : Nat → Int32) (fB : Nat → Int64) (fW : Nat → Int32) (k : Int32) (hk : 0 ≤ k.toInt ∧ k.toInt < 200) (htw : tW.toInt = -1) (hta : 0 ≤ tA.toInt ∧ tA.toInt ≤ tS.toInt) (hts2 : tS.toInt ≤ 2000) : kM (S := (Int32 × Int32 × (Nat → Int32) × (Nat → Int64) × (Nat → Int32))) l yX8_readLine wsX8_readLine ({ frames := 3, cells := 0, slots := 0, locals := 71 }) D (kT cI cL cB cZ cT) [.ref m0, .int k] [(m0, .inr (8, [.ref mH, .int aM, .long aC, .int mM, .long mQ, .int oV, .int pL, .int lI, .int sW, .int dP, .int sT, .long aT, .int cH, .int iW, .ref mI, .ref mJ, .ref mS, .ref mD, .int iH, .int aE, .int mN, .long sZ, .ref mX, .int tS, .int tA, .int tW, .ref mA, .ref mB, .ref mW, .ref mL, .int lS])), (mX, .inl (cB, 2000, .inl fX)), (mA, .inl (cI, 200, .inl fA)), (mB, .inl (cL, 200, .inr (.inl fB))), (mW, .inl (cZ, 200, .inl fW))] sz eV (fun r u => kOk (kLn tS fX tA) (u.2.1) (u.1) ∧ (0 ≤ ((u.1)).toInt ∧ ((u.1)).toInt ≤ tS.toInt) ∧ (∀ j : Nat, j ≠ k.toNatClampNeg → ((u.2.2.1)) j = fA j ∧ ((u.2.2.2.2)) j = fW j) ∧ (0 ≤ ((u.2.1)).toInt ∨ LAok (((u.2.2.1)) k.toNatClampNeg) (((u.2.2.2.2)) k.toNatClampNeg)) ∧ (0 ≤ ((u.2.1)).toInt ∨ ((u.2.1)).toInt = -1)) (fun u => [(m0, .inr (8, [.ref mH, .int aM, .long aC, .int mM, .long mQ, .int oV, .int pL, .int lI, .int sW, .int dP, .int sT, .long aT, .int cH, .int iW, .ref mI, .ref mJ, .ref mS, .ref mD, .int iH, .int aE, .int mN, .long sZ, .ref mX, .int tS, .int u.1, .int u.2.1, .ref mA, .ref mB, .ref mW, .ref mL, .int lS])), (mX, .inl (cB, 2000, .inl fX)), (mA, .inl (cI, 200, .inl u.2.2.1)), (mB, .inl (cL, 200, .inr (.inl u.2.2.2.1))), (mW, .inl (cZ, 200, .inl u.2.2.2.2))]) 0 0 := by
  refine kStart (cc := cX8_readLine) (maxL := 8) (ret := none) (own := RX8) (by decide) rfl rfl (Nat.le_of_ble_eq_true rfl) ?_
  intro p e s m args below meth c A ls hx hb hr hml hown hts hlocks hnm hsz hA hG hP hD hS hl
  have hK := hG.1
  have hl : lv_has ls 8 [(0, .ref m0), (1, .int k)] := hl
  refine lv_aload_n hx hb dX8_readLine_0 rfl (lv_at hl 0 rfl) ?_
  refine va_get (D := D) (ci := 8) (v := .int tA) (C := RX8) (T := TX8) (N := 31) hx hb hts iX8_readLine_X8 hown hK hP 0 rfl rfl 24 (by decide) (hts (.fieldLink RX8 246 "TapeCalculatorModel" "at" "I") (List.mem_of_getElem? (i := 1) rfl)) (fun _ h9 => h9) rfl dX8_readLine_1 ?_
  refine lv_istore_n (lv' := [(2, .int tA), (0, .ref m0), (1, .int k)]) hx hb dX8_readLine_4 rfl hl (by decide) rfl (fun ls hl => ?_)
  refine lv_aload_n hx hb dX8_readLine_5 rfl (lv_at hl 1 rfl) ?_
  refine va_get (D := D) (ci := 8) (v := .ref mA) (C := RX8) (T := TX8) (N := 31) hx hb hts iX8_readLine_X8 hown hK hP 0 rfl rfl 26 (by decide) (hts (.fieldLink RX8 30 "TapeCalculatorModel" "lineAt" "[I") (List.mem_of_getElem? (i := 2) rfl)) (fun _ h9 => h9) rfl dX8_readLine_6 ?_
  refine lv_iload_n hx hb dX8_readLine_9 rfl (lv_at hl 2 rfl) ?_
  refine lv_aload_n hx hb dX8_readLine_10 rfl (lv_at hl 1 rfl) ?_
  refine lv_iconst (v := 4) hx hb dX8_readLine_11 (by decide) ?_
  refine lv_ldc2 (v := 512) hx hb hown (hts (.constantLong RX8 264 (512)) (List.mem_of_getElem? (i := 3) rfl)) dX8_readLine_12 ?_
  refine kCallL (wr := [(mA, .inl (cI, 200, .inl fA)), (mB, .inl (cL, 200, .inr (.inl fB))), (mW, .inl (cZ, 200, .inl fW))]) (va_runV (As := [.int 4, .long 512]) (rest := [.int k, .ref mA]) ⟨hx, hb, hml, hown, hts⟩ (q_figures l D cI cL cB cZ cT _ m0 mH mI mJ mS mD mX mA mB mW mL aM aC mM mQ oV pL lI sW dP sT aT cH iW iH aE mN sZ tS tA tW lS fX 4 512 4 511 (by decide) (by decide) (by decide) (by omega) (by omega)) (cwV 2 hts gX8_readLine_X8_figures rfl rfl rfl (by decide +kernel) ⟨Nat.le_of_ble_eq_true rfl, Nat.le_of_ble_eq_true rfl⟩) (kPreV hG hP hD [0, 1] rfl (by decide) 0 8 rfl rfl rfl) rfl rfl hl.1 rfl (lv_room (Nat.le_of_ble_eq_true rfl)) dX8_readLine_15 ⟨Nat.le_of_ble_eq_true rfl, Nat.le_of_ble_eq_true rfl⟩) hA hP hD hS [0, 1] [2, 3, 4] rfl rfl (by decide) (by decide) (fun r_1 u_r_1 H locs wr_1 hP hD hS => ?_)
  have hP : va_P D vwCl [(mA, .inl (cI, 200, .inl fA)), (mB, .inl (cL, 200, .inr (.inl fB))), (mW, .inl (cZ, 200, .inl fW)), (m0, .inr (8, [.ref mH, .int aM, .long aC, .int mM, .long mQ, .int oV, .int pL, .int lI, .int sW, .int dP, .int sT, .long aT, .int cH, .int iW, .ref mI, .ref mJ, .ref mS, .ref mD, .int iH, .int aE, .int mN, .long sZ, .ref mX, .int tS, .int u_r_1.1, .int u_r_1.2, .ref mA, .ref mB, .ref mW, .ref mL, .int lS])), (mX, .inl (cB, 2000, .inl fX))] H := hP
  have hD : va_D A [(mA, .inl (cI, 200, .inl fA)), (mB, .inl (cL, 200, .inr (.inl fB))), (mW, .inl (cZ, 200, .inl fW)), (m0, .inr (8, [.ref mH, .int aM, .long aC, .int mM, .long mQ, .int oV, .int pL, .int lI, .int sW, .int dP, .int sT, .long aT, .int cH, .int iW, .ref mI, .ref mJ, .ref mS, .ref mD, .int iH, .int aE, .int mN, .long sZ, .ref mX, .int tS, .int u_r_1.1, .int u_r_1.2, .ref mA, .ref mB, .ref mW, .ref mL, .int lS])), (mX, .inl (cB, 2000, .inl fX))] := hD
  try dsimp only at wr_1
  try simp only [Int32.reduceToInt, Int64.reduceToInt] at wr_1
  obtain ⟨wr_1_0, wr_1_1, wr_1_2⟩ := wr_1
  have rgr_1 := kNm_r (f := fX) hts2 4 (tA) 0 (by omega) (by omega)
  rw [← wr_1_1] at rgr_1
  have wnr_1 := kif_w wr_1_2 (by omega) (by omega)
  refine lv_l2i hx hb dX8_readLine_18 rfl ?_
  refine va_iast hx hb hK hP hD hS 0 0 rfl rfl (vp_in_iff.mpr (by omega)) dX8_readLine_19 (fun H locs hP hD hS => ?_)
  have hP : va_P D vwCl [(mA, .inl (cI, 200, .inl (upd fA k.toNatClampNeg r_1.toInt32))), (mB, .inl (cL, 200, .inr (.inl fB))), (mW, .inl (cZ, 200, .inl fW)), (m0, .inr (8, [.ref mH, .int aM, .long aC, .int mM, .long mQ, .int oV, .int pL, .int lI, .int sW, .int dP, .int sT, .long aT, .int cH, .int iW, .ref mI, .ref mJ, .ref mS, .ref mD, .int iH, .int aE, .int mN, .long sZ, .ref mX, .int tS, .int u_r_1.1, .int u_r_1.2, .ref mA, .ref mB, .ref mW, .ref mL, .int lS])), (mX, .inl (cB, 2000, .inl fX))] H := hP
  have hD : va_D A [(mA, .inl (cI, 200, .inl (upd fA k.toNatClampNeg r_1.toInt32))), (mB, .inl (cL, 200, .inr (.inl fB))), (mW, .inl (cZ, 200, .inl fW)), (m0, .inr (8, [.ref mH, .int aM, .long aC, .int mM, .long mQ, .int oV, .int pL, .int lI, .int sW, .int dP, .int sT, .long aT, .int cH, .int iW, .ref mI, .ref mJ, .ref mS, .ref mD, .int iH, .int aE, .int mN, .long sZ, .ref mX, .int tS, .int u_r_1.1, .int u_r_1.2, .ref mA, .ref mB, .ref mW, .ref mL, .int lS])), (mX, .inl (cB, 2000, .inl fX))] := hD
  refine lv_aload_n hx hb dX8_readLine_20 rfl (lv_at hl 1 rfl) ?_
  refine lv_bipush (v := 32) hx hb dX8_readLine_21 (by decide) ?_
  refine kCallVd (wr := [(mA, .inl (cI, 200, .inl (upd fA k.toNatClampNeg r_1.toInt32))), (mB, .inl (cL, 200, .inr (.inl fB))), (mW, .inl (cZ, 200, .inl fW))]) (va_runV (As := [.int 32]) (rest := []) ⟨hx, hb, hml, hown, hts⟩ (q_expect l D cI cL cB cZ cT _ m0 mH mI mJ mS mD mX mA mB mW mL aM aC mM mQ oV pL lI sW dP sT aT cH iW iH aE mN sZ tS (u_r_1.1) (u_r_1.2) lS fX 32 32 (by decide) (by omega) (by omega)) (cwV 1 hts gX8_readLine_X8_expect rfl rfl rfl (by decide +kernel) ⟨Nat.le_of_ble_eq_true rfl, Nat.le_of_ble_eq_true rfl⟩) (kPreV hG hP hD [3, 4] rfl (by decide) 0 8 rfl rfl rfl) rfl rfl hl.1 rfl (lv_room (Nat.le_of_ble_eq_true rfl)) dX8_readLine_23 ⟨Nat.le_of_ble_eq_true rfl, Nat.le_of_ble_eq_true rfl⟩) hA hP hD hS [3, 4] [0, 1, 2] rfl rfl (by decide) (by decide) (fun _ u_r_2 H locs wr_2 hP hD hS => ?_)
  have hP : va_P D vwCl [(mA, .inl (cI, 200, .inl (upd fA k.toNatClampNeg r_1.toInt32))), (mB, .inl (cL, 200, .inr (.inl fB))), (mW, .inl (cZ, 200, .inl fW)), (m0, .inr (8, [.ref mH, .int aM, .long aC, .int mM, .long mQ, .int oV, .int pL, .int lI, .int sW, .int dP, .int sT, .long aT, .int cH, .int iW, .ref mI, .ref mJ, .ref mS, .ref mD, .int iH, .int aE, .int mN, .long sZ, .ref mX, .int tS, .int u_r_2.1, .int u_r_2.2, .ref mA, .ref mB, .ref mW, .ref mL, .int lS])), (mX, .inl (cB, 2000, .inl fX))] H := hP
  have hD : va_D A [(mA, .inl (cI, 200, .inl (upd fA k.toNatClampNeg r_1.toInt32))), (mB, .inl (cL, 200, .inr (.inl fB))), (mW, .inl (cZ, 200, .inl fW)), (m0, .inr (8, [.ref mH, .int aM, .long aC, .int mM, .long mQ, .int oV, .int pL, .int lI, .int sW, .int dP, .int sT, .long aT, .int cH, .int iW, .ref mI, .ref mJ, .ref mS, .ref mD, .int iH, .int aE, .int mN, .long sZ, .ref mX, .int tS, .int u_r_2.1, .int u_r_2.2, .ref mA, .ref mB, .ref mW, .ref mL, .int lS])), (mX, .inl (cB, 2000, .inl fX))] := hD
  try dsimp only at wr_2
  try simp only [Int32.reduceToInt, Int64.reduceToInt] at wr_2
  obtain ⟨wr_2_0, wr_2_1⟩ := wr_2
  have rgr_2 : (u_r_1.1).toInt ≤ (u_r_2.1).toInt ∧ (u_r_2.1).toInt ≤ tS.toInt := by
    by_cases h7 : (u_r_1.2).toInt < 0
    · rw [(wr_2_0 h7).1]; exact kSk_r (by omega) hts2 (by decide)
    · rw [(wr_2_1 h7).1]; omega
  have wnr_2 : 0 ≤ (u_r_2.2).toInt ∨ (u_r_2.2).toInt = -1 := by
    by_cases h7 : (u_r_1.2).toInt < 0
    · exact kif_w (wr_2_0 h7).2 (by omega) (by omega)
    · rw [(wr_2_1 h7).2]; omega
  refine lv_aload_n hx hb dX8_readLine_26 rfl (lv_at hl 1 rfl) ?_
  refine va_get (D := D) (ci := 8) (v := .int u_r_2.2) (C := RX8) (T := TX8) (N := 31) hx hb hts iX8_readLine_X8 hown hK hP 3 rfl rfl 25 (by decide) (hts (.fieldLink RX8 259 "TapeCalculatorModel" "wrong" "I") (List.mem_of_getElem? (i := 4) rfl)) (fun _ h9 => h9) rfl dX8_readLine_27 ?_
  refine lv_if_lt (tgt := 34) hx hb dX8_readLine_30 (by decide) (fun c_30_2 => ?_) (fun c_30_2 => ?_)
  · have t_30_2 := c_30_2
    try simp only [kb_eq0, kb_ne0, lg_cmp_lt, lg_cmp_le, lg_cmp_gt, lg_cmp_ge, lg_cmp_eq] at t_30_2
    try simp only [Int32.lt_iff_toInt_lt, Int32.le_iff_toInt_le, ← Int32.toInt_inj, Int64.lt_iff_toInt_lt, Int64.le_iff_toInt_le, ← Int64.toInt_inj, Int32.toInt_toInt64, Int32.reduceToInt, Int64.reduceToInt] at t_30_2
    refine lv_aload_n hx hb dX8_readLine_34 rfl (lv_at hl 1 rfl) ?_
    refine va_get (D := D) (ci := 8) (v := .ref mW) (C := RX8) (T := TX8) (N := 31) hx hb hts iX8_readLine_X8 hown hK hP 3 rfl rfl 28 (by decide) (hts (.fieldLink RX8 36 "TapeCalculatorModel" "lineWhole" "[Z") (List.mem_of_getElem? (i := 5) rfl)) (fun _ h9 => h9) rfl dX8_readLine_35 ?_
    refine lv_iload_n hx hb dX8_readLine_38 rfl (lv_at hl 2 rfl) ?_
    refine lv_iconst (v := 0) hx hb dX8_readLine_39 (by decide) ?_
    refine va_zast hx hb hK hP hD hS 2 3 rfl rfl (vp_in_iff.mpr (by omega)) dX8_readLine_40 (fun H locs hP hD hS => ?_)
    have hP : va_P D vwCl [(mA, .inl (cI, 200, .inl (upd fA k.toNatClampNeg r_1.toInt32))), (mB, .inl (cL, 200, .inr (.inl fB))), (mW, .inl (cZ, 200, .inl (upd fW k.toNatClampNeg (vp_nar .boolean 0)))), (m0, .inr (8, [.ref mH, .int aM, .long aC, .int mM, .long mQ, .int oV, .int pL, .int lI, .int sW, .int dP, .int sT, .long aT, .int cH, .int iW, .ref mI, .ref mJ, .ref mS, .ref mD, .int iH, .int aE, .int mN, .long sZ, .ref mX, .int tS, .int u_r_2.1, .int u_r_2.2, .ref mA, .ref mB, .ref mW, .ref mL, .int lS])), (mX, .inl (cB, 2000, .inl fX))] H := hP
    have hD : va_D A [(mA, .inl (cI, 200, .inl (upd fA k.toNatClampNeg r_1.toInt32))), (mB, .inl (cL, 200, .inr (.inl fB))), (mW, .inl (cZ, 200, .inl (upd fW k.toNatClampNeg (vp_nar .boolean 0)))), (m0, .inr (8, [.ref mH, .int aM, .long aC, .int mM, .long mQ, .int oV, .int pL, .int lI, .int sW, .int dP, .int sT, .long aT, .int cH, .int iW, .ref mI, .ref mJ, .ref mS, .ref mD, .int iH, .int aE, .int mN, .long sZ, .ref mX, .int tS, .int u_r_2.1, .int u_r_2.2, .ref mA, .ref mB, .ref mW, .ref mL, .int lS])), (mX, .inl (cB, 2000, .inl fX))] := hD
    refine lv_aload_n hx hb dX8_readLine_41 rfl (lv_at hl 1 rfl) ?_
    refine kCallI (wr := [(mA, .inl (cI, 200, .inl (upd fA k.toNatClampNeg r_1.toInt32))), (mB, .inl (cL, 200, .inr (.inl fB))), (mW, .inl (cZ, 200, .inl (upd fW k.toNatClampNeg (vp_nar .boolean 0))))]) (va_runV (As := []) (rest := []) ⟨hx, hb, hml, hown, hts⟩ (q_here l D cI cL cB cZ cT _ m0 mH mI mJ mS mD mX mA mB mW mL aM aC mM mQ oV pL lI sW dP sT aT cH iW iH aE mN sZ tS (u_r_2.1) (u_r_2.2) lS fX (by omega) (by omega)) (cwV 0 hts gX8_readLine_X8_here rfl rfl rfl (by decide +kernel) ⟨Nat.le_of_ble_eq_true rfl, Nat.le_of_ble_eq_true rfl⟩) (kPreV hG hP hD [3, 4] rfl (by decide) 0 8 rfl rfl rfl) rfl rfl hl.1 rfl (lv_room (Nat.le_of_ble_eq_true rfl)) dX8_readLine_42 ⟨Nat.le_of_ble_eq_true rfl, Nat.le_of_ble_eq_true rfl⟩) hA hP hD hS [3, 4] [0, 1, 2] rfl rfl (by decide) (by decide) (fun r_4 u_r_4 H locs wr_4 hP hD hS => ?_)
    have hP : va_P D vwCl [(mA, .inl (cI, 200, .inl (upd fA k.toNatClampNeg r_1.toInt32))), (mB, .inl (cL, 200, .inr (.inl fB))), (mW, .inl (cZ, 200, .inl (upd fW k.toNatClampNeg (vp_nar .boolean 0)))), (m0, .inr (8, [.ref mH, .int aM, .long aC, .int mM, .long mQ, .int oV, .int pL, .int lI, .int sW, .int dP, .int sT, .long aT, .int cH, .int iW, .ref mI, .ref mJ, .ref mS, .ref mD, .int iH, .int aE, .int mN, .long sZ, .ref mX, .int tS, .int u_r_2.1, .int u_r_2.2, .ref mA, .ref mB, .ref mW, .ref mL, .int lS])), (mX, .inl (cB, 2000, .inl fX))] H := hP
    have hD : va_D A [(mA, .inl (cI, 200, .inl (upd fA k.toNatClampNeg r_1.toInt32))), (mB, .inl (cL, 200, .inr (.inl fB))), (mW, .inl (cZ, 200, .inl (upd fW k.toNatClampNeg (vp_nar .boolean 0)))), (m0, .inr (8, [.ref mH, .int aM, .long aC, .int mM, .long mQ, .int oV, .int pL, .int lI, .int sW, .int dP, .int sT, .long aT, .int cH, .int iW, .ref mI, .ref mJ, .ref mS, .ref mD, .int iH, .int aE, .int mN, .long sZ, .ref mX, .int tS, .int u_r_2.1, .int u_r_2.2, .ref mA, .ref mB, .ref mW, .ref mL, .int lS])), (mX, .inl (cB, 2000, .inl fX))] := hD
    try dsimp only at wr_4
    subst wr_4
    refine lv_bipush (v := 61) hx hb dX8_readLine_45 (by decide) ?_
    refine lv_icmp_ne (tgt := 196) hx hb dX8_readLine_47 (by decide) (fun c_47_4 => ?_) (fun c_47_4 => ?_)
    · have t_47_4 := c_47_4
      try simp only [kb_eq0, kb_ne0, lg_cmp_lt, lg_cmp_le, lg_cmp_gt, lg_cmp_ge, lg_cmp_eq] at t_47_4
      try simp only [Int32.lt_iff_toInt_lt, Int32.le_iff_toInt_le, ← Int32.toInt_inj, Int64.lt_iff_toInt_lt, Int64.le_iff_toInt_le, ← Int64.toInt_inj, Int32.toInt_toInt64, Int32.reduceToInt, Int64.reduceToInt] at t_47_4
      refine lv_aload_n hx hb dX8_readLine_196 rfl (lv_at hl 1 rfl) ?_
      refine lv_iconst (v := 2) hx hb dX8_readLine_197 (by decide) ?_
      refine lv_ldc2 (v := 32) hx hb hown (hts (.constantLong RX8 278 (32)) (List.mem_of_getElem? (i := 9) rfl)) dX8_readLine_198 ?_
      refine kCallL (wr := [(mA, .inl (cI, 200, .inl (upd fA k.toNatClampNeg r_1.toInt32))), (mB, .inl (cL, 200, .inr (.inl fB))), (mW, .inl (cZ, 200, .inl (upd fW k.toNatClampNeg (vp_nar .boolean 0))))]) (va_runV (As := [.int 2, .long 32]) (rest := []) ⟨hx, hb, hml, hown, hts⟩ (q_figures l D cI cL cB cZ cT _ m0 mH mI mJ mS mD mX mA mB mW mL aM aC mM mQ oV pL lI sW dP sT aT cH iW iH aE mN sZ tS (u_r_2.1) (u_r_2.2) lS fX 2 32 2 31 (by decide) (by decide) (by decide) (by omega) (by omega)) (cwV 2 hts gX8_readLine_X8_figures rfl rfl rfl (by decide +kernel) ⟨Nat.le_of_ble_eq_true rfl, Nat.le_of_ble_eq_true rfl⟩) (kPreV hG hP hD [3, 4] rfl (by decide) 0 8 rfl rfl rfl) rfl rfl hl.1 rfl (lv_room (Nat.le_of_ble_eq_true rfl)) dX8_readLine_201 ⟨Nat.le_of_ble_eq_true rfl, Nat.le_of_ble_eq_true rfl⟩) hA hP hD hS [3, 4] [0, 1, 2] rfl rfl (by decide) (by decide) (fun r_6 u_r_6 H locs wr_6 hP hD hS => ?_)
      have hP : va_P D vwCl [(mA, .inl (cI, 200, .inl (upd fA k.toNatClampNeg r_1.toInt32))), (mB, .inl (cL, 200, .inr (.inl fB))), (mW, .inl (cZ, 200, .inl (upd fW k.toNatClampNeg (vp_nar .boolean 0)))), (m0, .inr (8, [.ref mH, .int aM, .long aC, .int mM, .long mQ, .int oV, .int pL, .int lI, .int sW, .int dP, .int sT, .long aT, .int cH, .int iW, .ref mI, .ref mJ, .ref mS, .ref mD, .int iH, .int aE, .int mN, .long sZ, .ref mX, .int tS, .int u_r_6.1, .int u_r_6.2, .ref mA, .ref mB, .ref mW, .ref mL, .int lS])), (mX, .inl (cB, 2000, .inl fX))] H := hP
      have hD : va_D A [(mA, .inl (cI, 200, .inl (upd fA k.toNatClampNeg r_1.toInt32))), (mB, .inl (cL, 200, .inr (.inl fB))), (mW, .inl (cZ, 200, .inl (upd fW k.toNatClampNeg (vp_nar .boolean 0)))), (m0, .inr (8, [.ref mH, .int aM, .long aC, .int mM, .long mQ, .int oV, .int pL, .int lI, .int sW, .int dP, .int sT, .long aT, .int cH, .int iW, .ref mI, .ref mJ, .ref mS, .ref mD, .int iH, .int aE, .int mN, .long sZ, .ref mX, .int tS, .int u_r_6.1, .int u_r_6.2, .ref mA, .ref mB, .ref mW, .ref mL, .int lS])), (mX, .inl (cB, 2000, .inl fX))] := hD
      try dsimp only at wr_6
      try simp only [Int32.reduceToInt, Int64.reduceToInt] at wr_6
      obtain ⟨wr_6_0, wr_6_1, wr_6_2⟩ := wr_6
      have rgr_6 := kNm_r (f := fX) hts2 2 (u_r_2.1) 0 (by omega) (by omega)
      rw [← wr_6_1] at rgr_6
      have wnr_6 := kif_w wr_6_2 (by omega) (by omega)
      refine lv_lstore_n (lv' := [(3, .long r_6), (2, .int tA), (0, .ref m0), (1, .int k)]) hx hb dX8_readLine_204 rfl hl (by decide) rfl (fun ls hl => ?_)
      refine lv_aload_n hx hb dX8_readLine_205 rfl (lv_at hl 2 rfl) ?_
      refine va_get (D := D) (ci := 8) (v := .int u_r_6.2) (C := RX8) (T := TX8) (N := 31) hx hb hts iX8_readLine_X8 hown hK hP 3 rfl rfl 25 (by decide) (hts (.fieldLink RX8 259 "TapeCalculatorModel" "wrong" "I") (List.mem_of_getElem? (i := 4) rfl)) (fun _ h9 => h9) rfl dX8_readLine_206 ?_
      refine lv_if_ge (tgt := 223) hx hb dX8_readLine_209 (by decide) (fun c_209_6 => ?_) (fun c_209_6 => ?_)
      · have t_209_6 := c_209_6
        try simp only [kb_eq0, kb_ne0, lg_cmp_lt, lg_cmp_le, lg_cmp_gt, lg_cmp_ge, lg_cmp_eq] at t_209_6
        try simp only [Int32.lt_iff_toInt_lt, Int32.le_iff_toInt_le, ← Int32.toInt_inj, Int64.lt_iff_toInt_lt, Int64.le_iff_toInt_le, ← Int64.toInt_inj, Int32.toInt_toInt64, Int32.reduceToInt, Int64.reduceToInt] at t_209_6
        refine lv_iconst (v := 0) hx hb dX8_readLine_223 (by decide) ?_
        refine lv_istore (lv' := [(5, .int 0), (3, .long r_6), (2, .int tA), (0, .ref m0), (1, .int k)]) hx hb dX8_readLine_224 hl (by decide) rfl (fun ls hl => ?_)
        refine lv_aload_n hx hb dX8_readLine_226 rfl (lv_at hl 3 rfl) ?_
        refine va_get (D := D) (ci := 8) (v := .int u_r_6.2) (C := RX8) (T := TX8) (N := 31) hx hb hts iX8_readLine_X8 hown hK hP 3 rfl rfl 25 (by decide) (hts (.fieldLink RX8 259 "TapeCalculatorModel" "wrong" "I") (List.mem_of_getElem? (i := 4) rfl)) (fun _ h9 => h9) rfl dX8_readLine_227 ?_
        refine lv_if_ge (tgt := 244) hx hb dX8_readLine_230 (by decide) (fun c_230_7 => ?_) (fun c_230_7 => ?_)
        · have t_230_7 := c_230_7
          try simp only [kb_eq0, kb_ne0, lg_cmp_lt, lg_cmp_le, lg_cmp_gt, lg_cmp_ge, lg_cmp_eq] at t_230_7
          try simp only [Int32.lt_iff_toInt_lt, Int32.le_iff_toInt_le, ← Int32.toInt_inj, Int64.lt_iff_toInt_lt, Int64.le_iff_toInt_le, ← Int64.toInt_inj, Int32.toInt_toInt64, Int32.reduceToInt, Int64.reduceToInt] at t_230_7
          refine lv_lconst (v := 0) hx hb dX8_readLine_244 (by decide) ?_
          refine lv_lstore (lv' := [(6, .long 0), (5, .int 0), (3, .long r_6), (2, .int tA), (0, .ref m0), (1, .int k)]) hx hb dX8_readLine_245 hl (by decide) rfl (fun ls hl => ?_)
          refine lv_aload_n hx hb dX8_readLine_247 rfl (lv_at hl 4 rfl) ?_
          refine va_get (D := D) (ci := 8) (v := .ref mB) (C := RX8) (T := TX8) (N := 31) hx hb hts iX8_readLine_X8 hown hK hP 3 rfl rfl 27 (by decide) (hts (.fieldLink RX8 33 "TapeCalculatorModel" "lineBits" "[J") (List.mem_of_getElem? (i := 8) rfl)) (fun _ h9 => h9) rfl dX8_readLine_248 ?_
          refine lv_iload_n hx hb dX8_readLine_251 rfl (lv_at hl 5 rfl) ?_
          refine lv_iload hx hb dX8_readLine_252 (lv_at hl 1 rfl) ?_
          refine lv_if_eq (tgt := 263) hx hb dX8_readLine_254 (by decide) (fun c_254_8 => ?_) (fun c_254_8 => ?_)
          · have t_254_8 := c_254_8
            try simp only [kb_eq0, kb_ne0, lg_cmp_lt, lg_cmp_le, lg_cmp_gt, lg_cmp_ge, lg_cmp_eq] at t_254_8
            try simp only [Int32.lt_iff_toInt_lt, Int32.le_iff_toInt_le, ← Int32.toInt_inj, Int64.lt_iff_toInt_lt, Int64.le_iff_toInt_le, ← Int64.toInt_inj, Int32.toInt_toInt64, Int32.reduceToInt, Int64.reduceToInt] at t_254_8
            refine lv_lconst (v := 0) hx hb dX8_readLine_263 (by decide) ?_
            refine lv_lload_n hx hb dX8_readLine_264 rfl (lv_at hl 2 rfl) ?_
            refine lv_bipush (v := 12) hx hb dX8_readLine_265 (by decide) ?_
            refine lv_lshl hx hb dX8_readLine_267 rfl ?_
            refine lv_lor hx hb dX8_readLine_268 ?_
            refine lv_lload hx hb dX8_readLine_269 (lv_at hl 0 rfl) ?_
            refine lv_lor hx hb dX8_readLine_271 ?_
            refine va_last hx hb hK hP hD hS 1 1 rfl rfl (vp_in_iff.mpr (by omega)) dX8_readLine_272 (fun H locs hP hD hS => ?_)
            have hP : va_P D vwCl [(mA, .inl (cI, 200, .inl (upd fA k.toNatClampNeg r_1.toInt32))), (mB, .inl (cL, 200, .inr (.inl (vp_updL fB k.toNatClampNeg ((0 ||| (r_6 <<< ((12 : Int32).toInt64 &&& 63))) ||| 0))))), (mW, .inl (cZ, 200, .inl (upd fW k.toNatClampNeg (vp_nar .boolean 0)))), (m0, .inr (8, [.ref mH, .int aM, .long aC, .int mM, .long mQ, .int oV, .int pL, .int lI, .int sW, .int dP, .int sT, .long aT, .int cH, .int iW, .ref mI, .ref mJ, .ref mS, .ref mD, .int iH, .int aE, .int mN, .long sZ, .ref mX, .int tS, .int u_r_6.1, .int u_r_6.2, .ref mA, .ref mB, .ref mW, .ref mL, .int lS])), (mX, .inl (cB, 2000, .inl fX))] H := hP
            have hD : va_D A [(mA, .inl (cI, 200, .inl (upd fA k.toNatClampNeg r_1.toInt32))), (mB, .inl (cL, 200, .inr (.inl (vp_updL fB k.toNatClampNeg ((0 ||| (r_6 <<< ((12 : Int32).toInt64 &&& 63))) ||| 0))))), (mW, .inl (cZ, 200, .inl (upd fW k.toNatClampNeg (vp_nar .boolean 0)))), (m0, .inr (8, [.ref mH, .int aM, .long aC, .int mM, .long mQ, .int oV, .int pL, .int lI, .int sW, .int dP, .int sT, .long aT, .int cH, .int iW, .ref mI, .ref mJ, .ref mS, .ref mD, .int iH, .int aE, .int mN, .long sZ, .ref mX, .int tS, .int u_r_6.1, .int u_r_6.2, .ref mA, .ref mB, .ref mW, .ref mL, .int lS])), (mX, .inl (cB, 2000, .inl fX))] := hD
            refine lv_aload_n hx hb dX8_readLine_273 rfl (lv_at hl 4 rfl) ?_
            refine lv_bipush (v := 10) hx hb dX8_readLine_274 (by decide) ?_
            refine kCallVd (wr := [(mA, .inl (cI, 200, .inl (upd fA k.toNatClampNeg r_1.toInt32))), (mB, .inl (cL, 200, .inr (.inl (vp_updL fB k.toNatClampNeg ((0 ||| (r_6 <<< ((12 : Int32).toInt64 &&& 63))) ||| 0))))), (mW, .inl (cZ, 200, .inl (upd fW k.toNatClampNeg (vp_nar .boolean 0))))]) (va_runV (As := [.int 10]) (rest := []) ⟨hx, hb, hml, hown, hts⟩ (q_expect l D cI cL cB cZ cT _ m0 mH mI mJ mS mD mX mA mB mW mL aM aC mM mQ oV pL lI sW dP sT aT cH iW iH aE mN sZ tS (u_r_6.1) (u_r_6.2) lS fX 10 10 (by decide) (by omega) (by omega)) (cwV 1 hts gX8_readLine_X8_expect rfl rfl rfl (by decide +kernel) ⟨Nat.le_of_ble_eq_true rfl, Nat.le_of_ble_eq_true rfl⟩) (kPreV hG hP hD [3, 4] rfl (by decide) 0 8 rfl rfl rfl) rfl rfl hl.1 rfl (lv_room (Nat.le_of_ble_eq_true rfl)) dX8_readLine_276 ⟨Nat.le_of_ble_eq_true rfl, Nat.le_of_ble_eq_true rfl⟩) hA hP hD hS [3, 4] [0, 1, 2] rfl rfl (by decide) (by decide) (fun _ u_r_10 H locs wr_10 hP hD hS => ?_)
            have hP : va_P D vwCl [(mA, .inl (cI, 200, .inl (upd fA k.toNatClampNeg r_1.toInt32))), (mB, .inl (cL, 200, .inr (.inl (vp_updL fB k.toNatClampNeg ((0 ||| (r_6 <<< ((12 : Int32).toInt64 &&& 63))) ||| 0))))), (mW, .inl (cZ, 200, .inl (upd fW k.toNatClampNeg (vp_nar .boolean 0)))), (m0, .inr (8, [.ref mH, .int aM, .long aC, .int mM, .long mQ, .int oV, .int pL, .int lI, .int sW, .int dP, .int sT, .long aT, .int cH, .int iW, .ref mI, .ref mJ, .ref mS, .ref mD, .int iH, .int aE, .int mN, .long sZ, .ref mX, .int tS, .int u_r_10.1, .int u_r_10.2, .ref mA, .ref mB, .ref mW, .ref mL, .int lS])), (mX, .inl (cB, 2000, .inl fX))] H := hP
            have hD : va_D A [(mA, .inl (cI, 200, .inl (upd fA k.toNatClampNeg r_1.toInt32))), (mB, .inl (cL, 200, .inr (.inl (vp_updL fB k.toNatClampNeg ((0 ||| (r_6 <<< ((12 : Int32).toInt64 &&& 63))) ||| 0))))), (mW, .inl (cZ, 200, .inl (upd fW k.toNatClampNeg (vp_nar .boolean 0)))), (m0, .inr (8, [.ref mH, .int aM, .long aC, .int mM, .long mQ, .int oV, .int pL, .int lI, .int sW, .int dP, .int sT, .long aT, .int cH, .int iW, .ref mI, .ref mJ, .ref mS, .ref mD, .int iH, .int aE, .int mN, .long sZ, .ref mX, .int tS, .int u_r_10.1, .int u_r_10.2, .ref mA, .ref mB, .ref mW, .ref mL, .int lS])), (mX, .inl (cB, 2000, .inl fX))] := hD
            try dsimp only at wr_10
            try simp only [Int32.reduceToInt, Int64.reduceToInt] at wr_10
            obtain ⟨wr_10_0, wr_10_1⟩ := wr_10
            have rgr_10 : (u_r_6.1).toInt ≤ (u_r_10.1).toInt ∧ (u_r_10.1).toInt ≤ tS.toInt := by
              by_cases h7 : (u_r_6.2).toInt < 0
              · rw [(wr_10_0 h7).1]; exact kSk_r (by omega) hts2 (by decide)
              · rw [(wr_10_1 h7).1]; omega
            have wnr_10 : 0 ≤ (u_r_10.2).toInt ∨ (u_r_10.2).toInt = -1 := by
              by_cases h7 : (u_r_6.2).toInt < 0
              · exact kif_w (wr_10_0 h7).2 (by omega) (by omega)
              · rw [(wr_10_1 h7).2]; omega
            refine kVret (u := (u_r_10.1, u_r_10.2, (upd fA k.toNatClampNeg r_1.toInt32), (vp_updL fB k.toNatClampNeg ((0 ||| (r_6 <<< ((12 : Int32).toInt64 &&& 63))) ||| 0)), (upd fW k.toNatClampNeg (vp_nar .boolean 0)))) hx hb hr hlocks hS dX8_readLine_279 ?_ (hP.sub [3, 4, 0, 1, 2] rfl) (hD.sub [3, 4, 0, 1, 2] (by decide) rfl)
            try dsimp only
            have FR := kFr_r (f := fX) hta hts2 htw wr_1_0 wr_1_1 wr_1_2 wr_2_0 wr_2_1
            have F2 := FR.resolve_left (fun h => absurd h.1 (by omega))
            obtain ⟨F3, F4, F5⟩ := F2
            rw [F4]
            refine ⟨kLb_n (f := fX) (by omega) F3 (by omega) wr_6_2 (by omega) (wr_10_1 (by omega)).2, by omega, fun j hj => ⟨?_, ?_⟩, ?_, ?_⟩
            · first | exact pk_un hj | exact (pk_un hj).trans (pk_un hj) | rfl
            · first | rfl | exact pk_un hj | exact (pk_un hj).trans (pk_un hj)
            · by_cases hz : 0 ≤ (u_r_10.2).toInt
              · exact Or.inl hz
              · right
                have hx8 := k_l2i (v := r_1) (by omega)
                refine ⟨by rw [pk_us]; omega, ?_⟩
                first | exact Or.inl (pk_us.trans rfl) | exact (Or.inl (pk_us.trans rfl))
            · omega
          · exact absurd (by decide) c_254_8
        · have t_230_7 := c_230_7
          try simp only [kb_eq0, kb_ne0, lg_cmp_lt, lg_cmp_le, lg_cmp_gt, lg_cmp_ge, lg_cmp_eq] at t_230_7
          try simp only [Int32.lt_iff_toInt_lt, Int32.le_iff_toInt_le, ← Int32.toInt_inj, Int64.lt_iff_toInt_lt, Int64.le_iff_toInt_le, ← Int64.toInt_inj, Int32.toInt_toInt64, Int32.reduceToInt, Int64.reduceToInt] at t_230_7
          omega
      · have t_209_6 := c_209_6
        try simp only [kb_eq0, kb_ne0, lg_cmp_lt, lg_cmp_le, lg_cmp_gt, lg_cmp_ge, lg_cmp_eq] at t_209_6
        try simp only [Int32.lt_iff_toInt_lt, Int32.le_iff_toInt_le, ← Int32.toInt_inj, Int64.lt_iff_toInt_lt, Int64.le_iff_toInt_le, ← Int64.toInt_inj, Int32.toInt_toInt64, Int32.reduceToInt, Int64.reduceToInt] at t_209_6
        refine lv_aload_n hx hb dX8_readLine_212 rfl (lv_at hl 2 rfl) ?_
        refine kCallI (wr := [(mA, .inl (cI, 200, .inl (upd fA k.toNatClampNeg r_1.toInt32))), (mB, .inl (cL, 200, .inr (.inl fB))), (mW, .inl (cZ, 200, .inl (upd fW k.toNatClampNeg (vp_nar .boolean 0))))]) (va_runV (As := []) (rest := []) ⟨hx, hb, hml, hown, hts⟩ (q_sign l D cI cL cB cZ cT _ m0 mH mI mJ mS mD mX mA mB mW mL aM aC mM mQ oV pL lI sW dP sT aT cH iW iH aE mN sZ tS (u_r_6.1) (u_r_6.2) lS fX (by omega) (by omega)) (cwV 0 hts gX8_readLine_X8_sign rfl rfl rfl (by decide +kernel) ⟨Nat.le_of_ble_eq_true rfl, Nat.le_of_ble_eq_true rfl⟩) (kPreV hG hP hD [3, 4] rfl (by decide) 0 8 rfl rfl rfl) rfl rfl hl.1 rfl (lv_room (Nat.le_of_ble_eq_true rfl)) dX8_readLine_213 ⟨Nat.le_of_ble_eq_true rfl, Nat.le_of_ble_eq_true rfl⟩) hA hP hD hS [3, 4] [0, 1, 2] rfl rfl (by decide) (by decide) (fun r_11 u_r_11 H locs wr_11 hP hD hS => ?_)
        have hP : va_P D vwCl [(mA, .inl (cI, 200, .inl (upd fA k.toNatClampNeg r_1.toInt32))), (mB, .inl (cL, 200, .inr (.inl fB))), (mW, .inl (cZ, 200, .inl (upd fW k.toNatClampNeg (vp_nar .boolean 0)))), (m0, .inr (8, [.ref mH, .int aM, .long aC, .int mM, .long mQ, .int oV, .int pL, .int lI, .int sW, .int dP, .int sT, .long aT, .int cH, .int iW, .ref mI, .ref mJ, .ref mS, .ref mD, .int iH, .int aE, .int mN, .long sZ, .ref mX, .int tS, .int u_r_11.1, .int u_r_11.2, .ref mA, .ref mB, .ref mW, .ref mL, .int lS])), (mX, .inl (cB, 2000, .inl fX))] H := hP
        have hD : va_D A [(mA, .inl (cI, 200, .inl (upd fA k.toNatClampNeg r_1.toInt32))), (mB, .inl (cL, 200, .inr (.inl fB))), (mW, .inl (cZ, 200, .inl (upd fW k.toNatClampNeg (vp_nar .boolean 0)))), (m0, .inr (8, [.ref mH, .int aM, .long aC, .int mM, .long mQ, .int oV, .int pL, .int lI, .int sW, .int dP, .int sT, .long aT, .int cH, .int iW, .ref mI, .ref mJ, .ref mS, .ref mD, .int iH, .int aE, .int mN, .long sZ, .ref mX, .int tS, .int u_r_11.1, .int u_r_11.2, .ref mA, .ref mB, .ref mW, .ref mL, .int lS])), (mX, .inl (cB, 2000, .inl fX))] := hD
        try dsimp only at wr_11
        try simp only [Int32.reduceToInt, Int64.reduceToInt] at wr_11
        obtain ⟨wr_11_0, wr_11_1, wr_11_2⟩ := wr_11
        have rgr_11 := kSg_r (a := u_r_6.1) (t := tS) (f := fX) (by omega) hts2
        rw [← wr_11_1] at rgr_11
        have wnr_11 := kif_w wr_11_2 (by omega) (by omega)
        refine lv_if_eq (tgt := 223) hx hb dX8_readLine_216 (by decide) (fun c_216_11 => ?_) (fun c_216_11 => ?_)
        · have t_216_11 := c_216_11
          try simp only [kb_eq0, kb_ne0, lg_cmp_lt, lg_cmp_le, lg_cmp_gt, lg_cmp_ge, lg_cmp_eq] at t_216_11
          try simp only [Int32.lt_iff_toInt_lt, Int32.le_iff_toInt_le, ← Int32.toInt_inj, Int64.lt_iff_toInt_lt, Int64.le_iff_toInt_le, ← Int64.toInt_inj, Int32.toInt_toInt64, Int32.reduceToInt, Int64.reduceToInt] at t_216_11
          refine lv_iconst (v := 0) hx hb dX8_readLine_223 (by decide) ?_
          refine lv_istore (lv' := [(5, .int 0), (3, .long r_6), (2, .int tA), (0, .ref m0), (1, .int k)]) hx hb dX8_readLine_224 hl (by decide) rfl (fun ls hl => ?_)
          refine lv_aload_n hx hb dX8_readLine_226 rfl (lv_at hl 3 rfl) ?_
          refine va_get (D := D) (ci := 8) (v := .int u_r_11.2) (C := RX8) (T := TX8) (N := 31) hx hb hts iX8_readLine_X8 hown hK hP 3 rfl rfl 25 (by decide) (hts (.fieldLink RX8 259 "TapeCalculatorModel" "wrong" "I") (List.mem_of_getElem? (i := 4) rfl)) (fun _ h9 => h9) rfl dX8_readLine_227 ?_
          refine lv_if_ge (tgt := 244) hx hb dX8_readLine_230 (by decide) (fun c_230_12 => ?_) (fun c_230_12 => ?_)
          · have t_230_12 := c_230_12
            try simp only [kb_eq0, kb_ne0, lg_cmp_lt, lg_cmp_le, lg_cmp_gt, lg_cmp_ge, lg_cmp_eq] at t_230_12
            try simp only [Int32.lt_iff_toInt_lt, Int32.le_iff_toInt_le, ← Int32.toInt_inj, Int64.lt_iff_toInt_lt, Int64.le_iff_toInt_le, ← Int64.toInt_inj, Int32.toInt_toInt64, Int32.reduceToInt, Int64.reduceToInt] at t_230_12
            refine lv_lconst (v := 0) hx hb dX8_readLine_244 (by decide) ?_
            refine lv_lstore (lv' := [(6, .long 0), (5, .int 0), (3, .long r_6), (2, .int tA), (0, .ref m0), (1, .int k)]) hx hb dX8_readLine_245 hl (by decide) rfl (fun ls hl => ?_)
            refine lv_aload_n hx hb dX8_readLine_247 rfl (lv_at hl 4 rfl) ?_
            refine va_get (D := D) (ci := 8) (v := .ref mB) (C := RX8) (T := TX8) (N := 31) hx hb hts iX8_readLine_X8 hown hK hP 3 rfl rfl 27 (by decide) (hts (.fieldLink RX8 33 "TapeCalculatorModel" "lineBits" "[J") (List.mem_of_getElem? (i := 8) rfl)) (fun _ h9 => h9) rfl dX8_readLine_248 ?_
            refine lv_iload_n hx hb dX8_readLine_251 rfl (lv_at hl 5 rfl) ?_
            refine lv_iload hx hb dX8_readLine_252 (lv_at hl 1 rfl) ?_
            refine lv_if_eq (tgt := 263) hx hb dX8_readLine_254 (by decide) (fun c_254_13 => ?_) (fun c_254_13 => ?_)
            · have t_254_13 := c_254_13
              try simp only [kb_eq0, kb_ne0, lg_cmp_lt, lg_cmp_le, lg_cmp_gt, lg_cmp_ge, lg_cmp_eq] at t_254_13
              try simp only [Int32.lt_iff_toInt_lt, Int32.le_iff_toInt_le, ← Int32.toInt_inj, Int64.lt_iff_toInt_lt, Int64.le_iff_toInt_le, ← Int64.toInt_inj, Int32.toInt_toInt64, Int32.reduceToInt, Int64.reduceToInt] at t_254_13
              refine lv_lconst (v := 0) hx hb dX8_readLine_263 (by decide) ?_
              refine lv_lload_n hx hb dX8_readLine_264 rfl (lv_at hl 2 rfl) ?_
              refine lv_bipush (v := 12) hx hb dX8_readLine_265 (by decide) ?_
              refine lv_lshl hx hb dX8_readLine_267 rfl ?_
              refine lv_lor hx hb dX8_readLine_268 ?_
              refine lv_lload hx hb dX8_readLine_269 (lv_at hl 0 rfl) ?_
              refine lv_lor hx hb dX8_readLine_271 ?_
              refine va_last hx hb hK hP hD hS 1 1 rfl rfl (vp_in_iff.mpr (by omega)) dX8_readLine_272 (fun H locs hP hD hS => ?_)
              have hP : va_P D vwCl [(mA, .inl (cI, 200, .inl (upd fA k.toNatClampNeg r_1.toInt32))), (mB, .inl (cL, 200, .inr (.inl (vp_updL fB k.toNatClampNeg ((0 ||| (r_6 <<< ((12 : Int32).toInt64 &&& 63))) ||| 0))))), (mW, .inl (cZ, 200, .inl (upd fW k.toNatClampNeg (vp_nar .boolean 0)))), (m0, .inr (8, [.ref mH, .int aM, .long aC, .int mM, .long mQ, .int oV, .int pL, .int lI, .int sW, .int dP, .int sT, .long aT, .int cH, .int iW, .ref mI, .ref mJ, .ref mS, .ref mD, .int iH, .int aE, .int mN, .long sZ, .ref mX, .int tS, .int u_r_11.1, .int u_r_11.2, .ref mA, .ref mB, .ref mW, .ref mL, .int lS])), (mX, .inl (cB, 2000, .inl fX))] H := hP
              have hD : va_D A [(mA, .inl (cI, 200, .inl (upd fA k.toNatClampNeg r_1.toInt32))), (mB, .inl (cL, 200, .inr (.inl (vp_updL fB k.toNatClampNeg ((0 ||| (r_6 <<< ((12 : Int32).toInt64 &&& 63))) ||| 0))))), (mW, .inl (cZ, 200, .inl (upd fW k.toNatClampNeg (vp_nar .boolean 0)))), (m0, .inr (8, [.ref mH, .int aM, .long aC, .int mM, .long mQ, .int oV, .int pL, .int lI, .int sW, .int dP, .int sT, .long aT, .int cH, .int iW, .ref mI, .ref mJ, .ref mS, .ref mD, .int iH, .int aE, .int mN, .long sZ, .ref mX, .int tS, .int u_r_11.1, .int u_r_11.2, .ref mA, .ref mB, .ref mW, .ref mL, .int lS])), (mX, .inl (cB, 2000, .inl fX))] := hD
              refine lv_aload_n hx hb dX8_readLine_273 rfl (lv_at hl 4 rfl) ?_
              refine lv_bipush (v := 10) hx hb dX8_readLine_274 (by decide) ?_
              refine kCallVd (wr := [(mA, .inl (cI, 200, .inl (upd fA k.toNatClampNeg r_1.toInt32))), (mB, .inl (cL, 200, .inr (.inl (vp_updL fB k.toNatClampNeg ((0 ||| (r_6 <<< ((12 : Int32).toInt64 &&& 63))) ||| 0))))), (mW, .inl (cZ, 200, .inl (upd fW k.toNatClampNeg (vp_nar .boolean 0))))]) (va_runV (As := [.int 10]) (rest := []) ⟨hx, hb, hml, hown, hts⟩ (q_expect l D cI cL cB cZ cT _ m0 mH mI mJ mS mD mX mA mB mW mL aM aC mM mQ oV pL lI sW dP sT aT cH iW iH aE mN sZ tS (u_r_11.1) (u_r_11.2) lS fX 10 10 (by decide) (by omega) (by omega)) (cwV 1 hts gX8_readLine_X8_expect rfl rfl rfl (by decide +kernel) ⟨Nat.le_of_ble_eq_true rfl, Nat.le_of_ble_eq_true rfl⟩) (kPreV hG hP hD [3, 4] rfl (by decide) 0 8 rfl rfl rfl) rfl rfl hl.1 rfl (lv_room (Nat.le_of_ble_eq_true rfl)) dX8_readLine_276 ⟨Nat.le_of_ble_eq_true rfl, Nat.le_of_ble_eq_true rfl⟩) hA hP hD hS [3, 4] [0, 1, 2] rfl rfl (by decide) (by decide) (fun _ u_r_15 H locs wr_15 hP hD hS => ?_)
              have hP : va_P D vwCl [(mA, .inl (cI, 200, .inl (upd fA k.toNatClampNeg r_1.toInt32))), (mB, .inl (cL, 200, .inr (.inl (vp_updL fB k.toNatClampNeg ((0 ||| (r_6 <<< ((12 : Int32).toInt64 &&& 63))) ||| 0))))), (mW, .inl (cZ, 200, .inl (upd fW k.toNatClampNeg (vp_nar .boolean 0)))), (m0, .inr (8, [.ref mH, .int aM, .long aC, .int mM, .long mQ, .int oV, .int pL, .int lI, .int sW, .int dP, .int sT, .long aT, .int cH, .int iW, .ref mI, .ref mJ, .ref mS, .ref mD, .int iH, .int aE, .int mN, .long sZ, .ref mX, .int tS, .int u_r_15.1, .int u_r_15.2, .ref mA, .ref mB, .ref mW, .ref mL, .int lS])), (mX, .inl (cB, 2000, .inl fX))] H := hP
              have hD : va_D A [(mA, .inl (cI, 200, .inl (upd fA k.toNatClampNeg r_1.toInt32))), (mB, .inl (cL, 200, .inr (.inl (vp_updL fB k.toNatClampNeg ((0 ||| (r_6 <<< ((12 : Int32).toInt64 &&& 63))) ||| 0))))), (mW, .inl (cZ, 200, .inl (upd fW k.toNatClampNeg (vp_nar .boolean 0)))), (m0, .inr (8, [.ref mH, .int aM, .long aC, .int mM, .long mQ, .int oV, .int pL, .int lI, .int sW, .int dP, .int sT, .long aT, .int cH, .int iW, .ref mI, .ref mJ, .ref mS, .ref mD, .int iH, .int aE, .int mN, .long sZ, .ref mX, .int tS, .int u_r_15.1, .int u_r_15.2, .ref mA, .ref mB, .ref mW, .ref mL, .int lS])), (mX, .inl (cB, 2000, .inl fX))] := hD
              try dsimp only at wr_15
              try simp only [Int32.reduceToInt, Int64.reduceToInt] at wr_15
              obtain ⟨wr_15_0, wr_15_1⟩ := wr_15
              have rgr_15 : (u_r_11.1).toInt ≤ (u_r_15.1).toInt ∧ (u_r_15.1).toInt ≤ tS.toInt := by
                by_cases h7 : (u_r_11.2).toInt < 0
                · rw [(wr_15_0 h7).1]; exact kSk_r (by omega) hts2 (by decide)
                · rw [(wr_15_1 h7).1]; omega
              have wnr_15 : 0 ≤ (u_r_15.2).toInt ∨ (u_r_15.2).toInt = -1 := by
                by_cases h7 : (u_r_11.2).toInt < 0
                · exact kif_w (wr_15_0 h7).2 (by omega) (by omega)
                · rw [(wr_15_1 h7).2]; omega
              refine kVret (u := (u_r_15.1, u_r_15.2, (upd fA k.toNatClampNeg r_1.toInt32), (vp_updL fB k.toNatClampNeg ((0 ||| (r_6 <<< ((12 : Int32).toInt64 &&& 63))) ||| 0)), (upd fW k.toNatClampNeg (vp_nar .boolean 0)))) hx hb hr hlocks hS dX8_readLine_279 ?_ (hP.sub [3, 4, 0, 1, 2] rfl) (hD.sub [3, 4, 0, 1, 2] (by decide) rfl)
              try dsimp only
              have FR := kFr_r (f := fX) hta hts2 htw wr_1_0 wr_1_1 wr_1_2 wr_2_0 wr_2_1
              have F2 := FR.resolve_left (fun h => absurd h.1 (by omega))
              obtain ⟨F3, F4, F5⟩ := F2
              rw [F4]
              obtain ⟨Y1, Y2⟩ := kLb_y (f := fX) (a := tA) (v := r_1) (by omega) (by omega) wr_6_2 (by omega)
              rw [Y1, ← wr_6_1]
              refine ⟨kTl_x (f := fX) (by omega) (by rw [Y2]; exact F3) wr_11_2 (by omega) (wr_15_1 (by omega)).2, by omega, fun j hj => ⟨?_, ?_⟩, ?_, ?_⟩
              · first | exact pk_un hj | exact (pk_un hj).trans (pk_un hj) | rfl
              · first | rfl | exact pk_un hj | exact (pk_un hj).trans (pk_un hj)
              · by_cases hz : 0 ≤ (u_r_15.2).toInt
                · exact Or.inl hz
                · right
                  have hx8 := k_l2i (v := r_1) (by omega)
                  refine ⟨by rw [pk_us]; omega, ?_⟩
                  first | exact Or.inl (pk_us.trans rfl) | exact (Or.inl (pk_us.trans rfl))
              · omega
            · exact absurd (by decide) c_254_13
          · have t_230_12 := c_230_12
            try simp only [kb_eq0, kb_ne0, lg_cmp_lt, lg_cmp_le, lg_cmp_gt, lg_cmp_ge, lg_cmp_eq] at t_230_12
            try simp only [Int32.lt_iff_toInt_lt, Int32.le_iff_toInt_le, ← Int32.toInt_inj, Int64.lt_iff_toInt_lt, Int64.le_iff_toInt_le, ← Int64.toInt_inj, Int32.toInt_toInt64, Int32.reduceToInt, Int64.reduceToInt] at t_230_12
            refine lv_aload_n hx hb dX8_readLine_233 rfl (lv_at hl 3 rfl) ?_
            refine lv_iconst (v := 4) hx hb dX8_readLine_234 (by decide) ?_
            refine lv_ldc2 (v := 4096) hx hb hown (hts (.constantLong RX8 280 (4096)) (List.mem_of_getElem? (i := 10) rfl)) dX8_readLine_235 ?_
            refine kCallL (wr := [(mA, .inl (cI, 200, .inl (upd fA k.toNatClampNeg r_1.toInt32))), (mB, .inl (cL, 200, .inr (.inl fB))), (mW, .inl (cZ, 200, .inl (upd fW k.toNatClampNeg (vp_nar .boolean 0))))]) (va_runV (As := [.int 4, .long 4096]) (rest := []) ⟨hx, hb, hml, hown, hts⟩ (q_figures l D cI cL cB cZ cT _ m0 mH mI mJ mS mD mX mA mB mW mL aM aC mM mQ oV pL lI sW dP sT aT cH iW iH aE mN sZ tS (u_r_11.1) (u_r_11.2) lS fX 4 4096 4 4095 (by decide) (by decide) (by decide) (by omega) (by omega)) (cwV 2 hts gX8_readLine_X8_figures rfl rfl rfl (by decide +kernel) ⟨Nat.le_of_ble_eq_true rfl, Nat.le_of_ble_eq_true rfl⟩) (kPreV hG hP hD [3, 4] rfl (by decide) 0 8 rfl rfl rfl) rfl rfl hl.1 rfl (lv_room (Nat.le_of_ble_eq_true rfl)) dX8_readLine_238 ⟨Nat.le_of_ble_eq_true rfl, Nat.le_of_ble_eq_true rfl⟩) hA hP hD hS [3, 4] [0, 1, 2] rfl rfl (by decide) (by decide) (fun r_16 u_r_16 H locs wr_16 hP hD hS => ?_)
            have hP : va_P D vwCl [(mA, .inl (cI, 200, .inl (upd fA k.toNatClampNeg r_1.toInt32))), (mB, .inl (cL, 200, .inr (.inl fB))), (mW, .inl (cZ, 200, .inl (upd fW k.toNatClampNeg (vp_nar .boolean 0)))), (m0, .inr (8, [.ref mH, .int aM, .long aC, .int mM, .long mQ, .int oV, .int pL, .int lI, .int sW, .int dP, .int sT, .long aT, .int cH, .int iW, .ref mI, .ref mJ, .ref mS, .ref mD, .int iH, .int aE, .int mN, .long sZ, .ref mX, .int tS, .int u_r_16.1, .int u_r_16.2, .ref mA, .ref mB, .ref mW, .ref mL, .int lS])), (mX, .inl (cB, 2000, .inl fX))] H := hP
            have hD : va_D A [(mA, .inl (cI, 200, .inl (upd fA k.toNatClampNeg r_1.toInt32))), (mB, .inl (cL, 200, .inr (.inl fB))), (mW, .inl (cZ, 200, .inl (upd fW k.toNatClampNeg (vp_nar .boolean 0)))), (m0, .inr (8, [.ref mH, .int aM, .long aC, .int mM, .long mQ, .int oV, .int pL, .int lI, .int sW, .int dP, .int sT, .long aT, .int cH, .int iW, .ref mI, .ref mJ, .ref mS, .ref mD, .int iH, .int aE, .int mN, .long sZ, .ref mX, .int tS, .int u_r_16.1, .int u_r_16.2, .ref mA, .ref mB, .ref mW, .ref mL, .int lS])), (mX, .inl (cB, 2000, .inl fX))] := hD
            try dsimp only at wr_16
            try simp only [Int32.reduceToInt, Int64.reduceToInt] at wr_16
            obtain ⟨wr_16_0, wr_16_1, wr_16_2⟩ := wr_16
            have rgr_16 := kNm_r (f := fX) hts2 4 (u_r_11.1) 0 (by omega) (by omega)
            rw [← wr_16_1] at rgr_16
            have wnr_16 := kif_w wr_16_2 (by omega) (by omega)
            refine lv_goto (tgt := 245) hx hb dX8_readLine_241 (by decide) ?_
            refine lv_lstore (lv' := [(6, .long r_16), (5, .int 0), (3, .long r_6), (2, .int tA), (0, .ref m0), (1, .int k)]) hx hb dX8_readLine_245 hl (by decide) rfl (fun ls hl => ?_)
            refine lv_aload_n hx hb dX8_readLine_247 rfl (lv_at hl 4 rfl) ?_
            refine va_get (D := D) (ci := 8) (v := .ref mB) (C := RX8) (T := TX8) (N := 31) hx hb hts iX8_readLine_X8 hown hK hP 3 rfl rfl 27 (by decide) (hts (.fieldLink RX8 33 "TapeCalculatorModel" "lineBits" "[J") (List.mem_of_getElem? (i := 8) rfl)) (fun _ h9 => h9) rfl dX8_readLine_248 ?_
            refine lv_iload_n hx hb dX8_readLine_251 rfl (lv_at hl 5 rfl) ?_
            refine lv_iload hx hb dX8_readLine_252 (lv_at hl 1 rfl) ?_
            refine lv_if_eq (tgt := 263) hx hb dX8_readLine_254 (by decide) (fun c_254_16 => ?_) (fun c_254_16 => ?_)
            · have t_254_16 := c_254_16
              try simp only [kb_eq0, kb_ne0, lg_cmp_lt, lg_cmp_le, lg_cmp_gt, lg_cmp_ge, lg_cmp_eq] at t_254_16
              try simp only [Int32.lt_iff_toInt_lt, Int32.le_iff_toInt_le, ← Int32.toInt_inj, Int64.lt_iff_toInt_lt, Int64.le_iff_toInt_le, ← Int64.toInt_inj, Int32.toInt_toInt64, Int32.reduceToInt, Int64.reduceToInt] at t_254_16
              refine lv_lconst (v := 0) hx hb dX8_readLine_263 (by decide) ?_
              refine lv_lload_n hx hb dX8_readLine_264 rfl (lv_at hl 2 rfl) ?_
              refine lv_bipush (v := 12) hx hb dX8_readLine_265 (by decide) ?_
              refine lv_lshl hx hb dX8_readLine_267 rfl ?_
              refine lv_lor hx hb dX8_readLine_268 ?_
              refine lv_lload hx hb dX8_readLine_269 (lv_at hl 0 rfl) ?_
              refine lv_lor hx hb dX8_readLine_271 ?_
              refine va_last hx hb hK hP hD hS 1 1 rfl rfl (vp_in_iff.mpr (by omega)) dX8_readLine_272 (fun H locs hP hD hS => ?_)
              have hP : va_P D vwCl [(mA, .inl (cI, 200, .inl (upd fA k.toNatClampNeg r_1.toInt32))), (mB, .inl (cL, 200, .inr (.inl (vp_updL fB k.toNatClampNeg ((0 ||| (r_6 <<< ((12 : Int32).toInt64 &&& 63))) ||| r_16))))), (mW, .inl (cZ, 200, .inl (upd fW k.toNatClampNeg (vp_nar .boolean 0)))), (m0, .inr (8, [.ref mH, .int aM, .long aC, .int mM, .long mQ, .int oV, .int pL, .int lI, .int sW, .int dP, .int sT, .long aT, .int cH, .int iW, .ref mI, .ref mJ, .ref mS, .ref mD, .int iH, .int aE, .int mN, .long sZ, .ref mX, .int tS, .int u_r_16.1, .int u_r_16.2, .ref mA, .ref mB, .ref mW, .ref mL, .int lS])), (mX, .inl (cB, 2000, .inl fX))] H := hP
              have hD : va_D A [(mA, .inl (cI, 200, .inl (upd fA k.toNatClampNeg r_1.toInt32))), (mB, .inl (cL, 200, .inr (.inl (vp_updL fB k.toNatClampNeg ((0 ||| (r_6 <<< ((12 : Int32).toInt64 &&& 63))) ||| r_16))))), (mW, .inl (cZ, 200, .inl (upd fW k.toNatClampNeg (vp_nar .boolean 0)))), (m0, .inr (8, [.ref mH, .int aM, .long aC, .int mM, .long mQ, .int oV, .int pL, .int lI, .int sW, .int dP, .int sT, .long aT, .int cH, .int iW, .ref mI, .ref mJ, .ref mS, .ref mD, .int iH, .int aE, .int mN, .long sZ, .ref mX, .int tS, .int u_r_16.1, .int u_r_16.2, .ref mA, .ref mB, .ref mW, .ref mL, .int lS])), (mX, .inl (cB, 2000, .inl fX))] := hD
              refine lv_aload_n hx hb dX8_readLine_273 rfl (lv_at hl 4 rfl) ?_
              refine lv_bipush (v := 10) hx hb dX8_readLine_274 (by decide) ?_
              refine kCallVd (wr := [(mA, .inl (cI, 200, .inl (upd fA k.toNatClampNeg r_1.toInt32))), (mB, .inl (cL, 200, .inr (.inl (vp_updL fB k.toNatClampNeg ((0 ||| (r_6 <<< ((12 : Int32).toInt64 &&& 63))) ||| r_16))))), (mW, .inl (cZ, 200, .inl (upd fW k.toNatClampNeg (vp_nar .boolean 0))))]) (va_runV (As := [.int 10]) (rest := []) ⟨hx, hb, hml, hown, hts⟩ (q_expect l D cI cL cB cZ cT _ m0 mH mI mJ mS mD mX mA mB mW mL aM aC mM mQ oV pL lI sW dP sT aT cH iW iH aE mN sZ tS (u_r_16.1) (u_r_16.2) lS fX 10 10 (by decide) (by omega) (by omega)) (cwV 1 hts gX8_readLine_X8_expect rfl rfl rfl (by decide +kernel) ⟨Nat.le_of_ble_eq_true rfl, Nat.le_of_ble_eq_true rfl⟩) (kPreV hG hP hD [3, 4] rfl (by decide) 0 8 rfl rfl rfl) rfl rfl hl.1 rfl (lv_room (Nat.le_of_ble_eq_true rfl)) dX8_readLine_276 ⟨Nat.le_of_ble_eq_true rfl, Nat.le_of_ble_eq_true rfl⟩) hA hP hD hS [3, 4] [0, 1, 2] rfl rfl (by decide) (by decide) (fun _ u_r_18 H locs wr_18 hP hD hS => ?_)
              have hP : va_P D vwCl [(mA, .inl (cI, 200, .inl (upd fA k.toNatClampNeg r_1.toInt32))), (mB, .inl (cL, 200, .inr (.inl (vp_updL fB k.toNatClampNeg ((0 ||| (r_6 <<< ((12 : Int32).toInt64 &&& 63))) ||| r_16))))), (mW, .inl (cZ, 200, .inl (upd fW k.toNatClampNeg (vp_nar .boolean 0)))), (m0, .inr (8, [.ref mH, .int aM, .long aC, .int mM, .long mQ, .int oV, .int pL, .int lI, .int sW, .int dP, .int sT, .long aT, .int cH, .int iW, .ref mI, .ref mJ, .ref mS, .ref mD, .int iH, .int aE, .int mN, .long sZ, .ref mX, .int tS, .int u_r_18.1, .int u_r_18.2, .ref mA, .ref mB, .ref mW, .ref mL, .int lS])), (mX, .inl (cB, 2000, .inl fX))] H := hP
              have hD : va_D A [(mA, .inl (cI, 200, .inl (upd fA k.toNatClampNeg r_1.toInt32))), (mB, .inl (cL, 200, .inr (.inl (vp_updL fB k.toNatClampNeg ((0 ||| (r_6 <<< ((12 : Int32).toInt64 &&& 63))) ||| r_16))))), (mW, .inl (cZ, 200, .inl (upd fW k.toNatClampNeg (vp_nar .boolean 0)))), (m0, .inr (8, [.ref mH, .int aM, .long aC, .int mM, .long mQ, .int oV, .int pL, .int lI, .int sW, .int dP, .int sT, .long aT, .int cH, .int iW, .ref mI, .ref mJ, .ref mS, .ref mD, .int iH, .int aE, .int mN, .long sZ, .ref mX, .int tS, .int u_r_18.1, .int u_r_18.2, .ref mA, .ref mB, .ref mW, .ref mL, .int lS])), (mX, .inl (cB, 2000, .inl fX))] := hD
              try dsimp only at wr_18
              try simp only [Int32.reduceToInt, Int64.reduceToInt] at wr_18
              obtain ⟨wr_18_0, wr_18_1⟩ := wr_18
              have rgr_18 : (u_r_16.1).toInt ≤ (u_r_18.1).toInt ∧ (u_r_18.1).toInt ≤ tS.toInt := by
                by_cases h7 : (u_r_16.2).toInt < 0
                · rw [(wr_18_0 h7).1]; exact kSk_r (by omega) hts2 (by decide)
                · rw [(wr_18_1 h7).1]; omega
              have wnr_18 : 0 ≤ (u_r_18.2).toInt ∨ (u_r_18.2).toInt = -1 := by
                by_cases h7 : (u_r_16.2).toInt < 0
                · exact kif_w (wr_18_0 h7).2 (by omega) (by omega)
                · rw [(wr_18_1 h7).2]; omega
              refine kVret (u := (u_r_18.1, u_r_18.2, (upd fA k.toNatClampNeg r_1.toInt32), (vp_updL fB k.toNatClampNeg ((0 ||| (r_6 <<< ((12 : Int32).toInt64 &&& 63))) ||| r_16)), (upd fW k.toNatClampNeg (vp_nar .boolean 0)))) hx hb hr hlocks hS dX8_readLine_279 ?_ (hP.sub [3, 4, 0, 1, 2] rfl) (hD.sub [3, 4, 0, 1, 2] (by decide) rfl)
              try dsimp only
              have FR := kFr_r (f := fX) hta hts2 htw wr_1_0 wr_1_1 wr_1_2 wr_2_0 wr_2_1
              have F2 := FR.resolve_left (fun h => absurd h.1 (by omega))
              obtain ⟨F3, F4, F5⟩ := F2
              rw [F4]
              obtain ⟨Y1, Y2⟩ := kLb_y (f := fX) (a := tA) (v := r_1) (by omega) (by omega) wr_6_2 (by omega)
              rw [Y1, ← wr_6_1]
              refine ⟨kTl_y (f := fX) (by omega) hts2 (by rw [Y2]; exact F3) wr_11_1 wr_11_2 (by omega) wr_16_1 wr_16_2 wr_18_0 wr_18_1, by omega, fun j hj => ⟨?_, ?_⟩, ?_, ?_⟩
              · first | exact pk_un hj | exact (pk_un hj).trans (pk_un hj) | rfl
              · first | rfl | exact pk_un hj | exact (pk_un hj).trans (pk_un hj)
              · by_cases hz : 0 ≤ (u_r_18.2).toInt
                · exact Or.inl hz
                · right
                  have hx8 := k_l2i (v := r_1) (by omega)
                  refine ⟨by rw [pk_us]; omega, ?_⟩
                  first | exact Or.inl (pk_us.trans rfl) | exact (Or.inl (pk_us.trans rfl))
              · omega
            · exact absurd (by decide) c_254_16
        · have t_216_11 := c_216_11
          try simp only [kb_eq0, kb_ne0, lg_cmp_lt, lg_cmp_le, lg_cmp_gt, lg_cmp_ge, lg_cmp_eq] at t_216_11
          try simp only [Int32.lt_iff_toInt_lt, Int32.le_iff_toInt_le, ← Int32.toInt_inj, Int64.lt_iff_toInt_lt, Int64.le_iff_toInt_le, ← Int64.toInt_inj, Int32.toInt_toInt64, Int32.reduceToInt, Int64.reduceToInt] at t_216_11
          refine lv_iconst (v := 1) hx hb dX8_readLine_219 (by decide) ?_
          refine lv_goto (tgt := 224) hx hb dX8_readLine_220 (by decide) ?_
          refine lv_istore (lv' := [(5, .int 1), (3, .long r_6), (2, .int tA), (0, .ref m0), (1, .int k)]) hx hb dX8_readLine_224 hl (by decide) rfl (fun ls hl => ?_)
          refine lv_aload_n hx hb dX8_readLine_226 rfl (lv_at hl 3 rfl) ?_
          refine va_get (D := D) (ci := 8) (v := .int u_r_11.2) (C := RX8) (T := TX8) (N := 31) hx hb hts iX8_readLine_X8 hown hK hP 3 rfl rfl 25 (by decide) (hts (.fieldLink RX8 259 "TapeCalculatorModel" "wrong" "I") (List.mem_of_getElem? (i := 4) rfl)) (fun _ h9 => h9) rfl dX8_readLine_227 ?_
          refine lv_if_ge (tgt := 244) hx hb dX8_readLine_230 (by decide) (fun c_230_18 => ?_) (fun c_230_18 => ?_)
          · have t_230_18 := c_230_18
            try simp only [kb_eq0, kb_ne0, lg_cmp_lt, lg_cmp_le, lg_cmp_gt, lg_cmp_ge, lg_cmp_eq] at t_230_18
            try simp only [Int32.lt_iff_toInt_lt, Int32.le_iff_toInt_le, ← Int32.toInt_inj, Int64.lt_iff_toInt_lt, Int64.le_iff_toInt_le, ← Int64.toInt_inj, Int32.toInt_toInt64, Int32.reduceToInt, Int64.reduceToInt] at t_230_18
            refine lv_lconst (v := 0) hx hb dX8_readLine_244 (by decide) ?_
            refine lv_lstore (lv' := [(6, .long 0), (5, .int 1), (3, .long r_6), (2, .int tA), (0, .ref m0), (1, .int k)]) hx hb dX8_readLine_245 hl (by decide) rfl (fun ls hl => ?_)
            refine lv_aload_n hx hb dX8_readLine_247 rfl (lv_at hl 4 rfl) ?_
            refine va_get (D := D) (ci := 8) (v := .ref mB) (C := RX8) (T := TX8) (N := 31) hx hb hts iX8_readLine_X8 hown hK hP 3 rfl rfl 27 (by decide) (hts (.fieldLink RX8 33 "TapeCalculatorModel" "lineBits" "[J") (List.mem_of_getElem? (i := 8) rfl)) (fun _ h9 => h9) rfl dX8_readLine_248 ?_
            refine lv_iload_n hx hb dX8_readLine_251 rfl (lv_at hl 5 rfl) ?_
            refine lv_iload hx hb dX8_readLine_252 (lv_at hl 1 rfl) ?_
            refine lv_if_eq (tgt := 263) hx hb dX8_readLine_254 (by decide) (fun c_254_19 => ?_) (fun c_254_19 => ?_)
            · exact absurd c_254_19 (by decide)
            · have t_254_19 := c_254_19
              try simp only [kb_eq0, kb_ne0, lg_cmp_lt, lg_cmp_le, lg_cmp_gt, lg_cmp_ge, lg_cmp_eq] at t_254_19
              try simp only [Int32.lt_iff_toInt_lt, Int32.le_iff_toInt_le, ← Int32.toInt_inj, Int64.lt_iff_toInt_lt, Int64.le_iff_toInt_le, ← Int64.toInt_inj, Int32.toInt_toInt64, Int32.reduceToInt, Int64.reduceToInt] at t_254_19
              refine lv_ldc2 (v := 131072) hx hb hown (hts (.constantLong RX8 276 (131072)) (List.mem_of_getElem? (i := 7) rfl)) dX8_readLine_257 ?_
              refine lv_goto (tgt := 264) hx hb dX8_readLine_260 (by decide) ?_
              refine lv_lload_n hx hb dX8_readLine_264 rfl (lv_at hl 2 rfl) ?_
              refine lv_bipush (v := 12) hx hb dX8_readLine_265 (by decide) ?_
              refine lv_lshl hx hb dX8_readLine_267 rfl ?_
              refine lv_lor hx hb dX8_readLine_268 ?_
              refine lv_lload hx hb dX8_readLine_269 (lv_at hl 0 rfl) ?_
              refine lv_lor hx hb dX8_readLine_271 ?_
              refine va_last hx hb hK hP hD hS 1 1 rfl rfl (vp_in_iff.mpr (by omega)) dX8_readLine_272 (fun H locs hP hD hS => ?_)
              have hP : va_P D vwCl [(mA, .inl (cI, 200, .inl (upd fA k.toNatClampNeg r_1.toInt32))), (mB, .inl (cL, 200, .inr (.inl (vp_updL fB k.toNatClampNeg ((131072 ||| (r_6 <<< ((12 : Int32).toInt64 &&& 63))) ||| 0))))), (mW, .inl (cZ, 200, .inl (upd fW k.toNatClampNeg (vp_nar .boolean 0)))), (m0, .inr (8, [.ref mH, .int aM, .long aC, .int mM, .long mQ, .int oV, .int pL, .int lI, .int sW, .int dP, .int sT, .long aT, .int cH, .int iW, .ref mI, .ref mJ, .ref mS, .ref mD, .int iH, .int aE, .int mN, .long sZ, .ref mX, .int tS, .int u_r_11.1, .int u_r_11.2, .ref mA, .ref mB, .ref mW, .ref mL, .int lS])), (mX, .inl (cB, 2000, .inl fX))] H := hP
              have hD : va_D A [(mA, .inl (cI, 200, .inl (upd fA k.toNatClampNeg r_1.toInt32))), (mB, .inl (cL, 200, .inr (.inl (vp_updL fB k.toNatClampNeg ((131072 ||| (r_6 <<< ((12 : Int32).toInt64 &&& 63))) ||| 0))))), (mW, .inl (cZ, 200, .inl (upd fW k.toNatClampNeg (vp_nar .boolean 0)))), (m0, .inr (8, [.ref mH, .int aM, .long aC, .int mM, .long mQ, .int oV, .int pL, .int lI, .int sW, .int dP, .int sT, .long aT, .int cH, .int iW, .ref mI, .ref mJ, .ref mS, .ref mD, .int iH, .int aE, .int mN, .long sZ, .ref mX, .int tS, .int u_r_11.1, .int u_r_11.2, .ref mA, .ref mB, .ref mW, .ref mL, .int lS])), (mX, .inl (cB, 2000, .inl fX))] := hD
              refine lv_aload_n hx hb dX8_readLine_273 rfl (lv_at hl 4 rfl) ?_
              refine lv_bipush (v := 10) hx hb dX8_readLine_274 (by decide) ?_
              refine kCallVd (wr := [(mA, .inl (cI, 200, .inl (upd fA k.toNatClampNeg r_1.toInt32))), (mB, .inl (cL, 200, .inr (.inl (vp_updL fB k.toNatClampNeg ((131072 ||| (r_6 <<< ((12 : Int32).toInt64 &&& 63))) ||| 0))))), (mW, .inl (cZ, 200, .inl (upd fW k.toNatClampNeg (vp_nar .boolean 0))))]) (va_runV (As := [.int 10]) (rest := []) ⟨hx, hb, hml, hown, hts⟩ (q_expect l D cI cL cB cZ cT _ m0 mH mI mJ mS mD mX mA mB mW mL aM aC mM mQ oV pL lI sW dP sT aT cH iW iH aE mN sZ tS (u_r_11.1) (u_r_11.2) lS fX 10 10 (by decide) (by omega) (by omega)) (cwV 1 hts gX8_readLine_X8_expect rfl rfl rfl (by decide +kernel) ⟨Nat.le_of_ble_eq_true rfl, Nat.le_of_ble_eq_true rfl⟩) (kPreV hG hP hD [3, 4] rfl (by decide) 0 8 rfl rfl rfl) rfl rfl hl.1 rfl (lv_room (Nat.le_of_ble_eq_true rfl)) dX8_readLine_276 ⟨Nat.le_of_ble_eq_true rfl, Nat.le_of_ble_eq_true rfl⟩) hA hP hD hS [3, 4] [0, 1, 2] rfl rfl (by decide) (by decide) (fun _ u_r_21 H locs wr_21 hP hD hS => ?_)
              have hP : va_P D vwCl [(mA, .inl (cI, 200, .inl (upd fA k.toNatClampNeg r_1.toInt32))), (mB, .inl (cL, 200, .inr (.inl (vp_updL fB k.toNatClampNeg ((131072 ||| (r_6 <<< ((12 : Int32).toInt64 &&& 63))) ||| 0))))), (mW, .inl (cZ, 200, .inl (upd fW k.toNatClampNeg (vp_nar .boolean 0)))), (m0, .inr (8, [.ref mH, .int aM, .long aC, .int mM, .long mQ, .int oV, .int pL, .int lI, .int sW, .int dP, .int sT, .long aT, .int cH, .int iW, .ref mI, .ref mJ, .ref mS, .ref mD, .int iH, .int aE, .int mN, .long sZ, .ref mX, .int tS, .int u_r_21.1, .int u_r_21.2, .ref mA, .ref mB, .ref mW, .ref mL, .int lS])), (mX, .inl (cB, 2000, .inl fX))] H := hP
              have hD : va_D A [(mA, .inl (cI, 200, .inl (upd fA k.toNatClampNeg r_1.toInt32))), (mB, .inl (cL, 200, .inr (.inl (vp_updL fB k.toNatClampNeg ((131072 ||| (r_6 <<< ((12 : Int32).toInt64 &&& 63))) ||| 0))))), (mW, .inl (cZ, 200, .inl (upd fW k.toNatClampNeg (vp_nar .boolean 0)))), (m0, .inr (8, [.ref mH, .int aM, .long aC, .int mM, .long mQ, .int oV, .int pL, .int lI, .int sW, .int dP, .int sT, .long aT, .int cH, .int iW, .ref mI, .ref mJ, .ref mS, .ref mD, .int iH, .int aE, .int mN, .long sZ, .ref mX, .int tS, .int u_r_21.1, .int u_r_21.2, .ref mA, .ref mB, .ref mW, .ref mL, .int lS])), (mX, .inl (cB, 2000, .inl fX))] := hD
              try dsimp only at wr_21
              try simp only [Int32.reduceToInt, Int64.reduceToInt] at wr_21
              obtain ⟨wr_21_0, wr_21_1⟩ := wr_21
              have rgr_21 : (u_r_11.1).toInt ≤ (u_r_21.1).toInt ∧ (u_r_21.1).toInt ≤ tS.toInt := by
                by_cases h7 : (u_r_11.2).toInt < 0
                · rw [(wr_21_0 h7).1]; exact kSk_r (by omega) hts2 (by decide)
                · rw [(wr_21_1 h7).1]; omega
              have wnr_21 : 0 ≤ (u_r_21.2).toInt ∨ (u_r_21.2).toInt = -1 := by
                by_cases h7 : (u_r_11.2).toInt < 0
                · exact kif_w (wr_21_0 h7).2 (by omega) (by omega)
                · rw [(wr_21_1 h7).2]; omega
              refine kVret (u := (u_r_21.1, u_r_21.2, (upd fA k.toNatClampNeg r_1.toInt32), (vp_updL fB k.toNatClampNeg ((131072 ||| (r_6 <<< ((12 : Int32).toInt64 &&& 63))) ||| 0)), (upd fW k.toNatClampNeg (vp_nar .boolean 0)))) hx hb hr hlocks hS dX8_readLine_279 ?_ (hP.sub [3, 4, 0, 1, 2] rfl) (hD.sub [3, 4, 0, 1, 2] (by decide) rfl)
              try dsimp only
              have FR := kFr_r (f := fX) hta hts2 htw wr_1_0 wr_1_1 wr_1_2 wr_2_0 wr_2_1
              have F2 := FR.resolve_left (fun h => absurd h.1 (by omega))
              obtain ⟨F3, F4, F5⟩ := F2
              rw [F4]
              obtain ⟨Y1, Y2⟩ := kLb_y (f := fX) (a := tA) (v := r_1) (by omega) (by omega) wr_6_2 (by omega)
              rw [Y1, ← wr_6_1]
              refine ⟨kTl_x (f := fX) (by omega) (by rw [Y2]; exact F3) wr_11_2 (by omega) (wr_21_1 (by omega)).2, by omega, fun j hj => ⟨?_, ?_⟩, ?_, ?_⟩
              · first | exact pk_un hj | exact (pk_un hj).trans (pk_un hj) | rfl
              · first | rfl | exact pk_un hj | exact (pk_un hj).trans (pk_un hj)
              · by_cases hz : 0 ≤ (u_r_21.2).toInt
                · exact Or.inl hz
                · right
                  have hx8 := k_l2i (v := r_1) (by omega)
                  refine ⟨by rw [pk_us]; omega, ?_⟩
                  first | exact Or.inl (pk_us.trans rfl) | exact (Or.inl (pk_us.trans rfl))
              · omega
          · have t_230_18 := c_230_18
            try simp only [kb_eq0, kb_ne0, lg_cmp_lt, lg_cmp_le, lg_cmp_gt, lg_cmp_ge, lg_cmp_eq] at t_230_18
            try simp only [Int32.lt_iff_toInt_lt, Int32.le_iff_toInt_le, ← Int32.toInt_inj, Int64.lt_iff_toInt_lt, Int64.le_iff_toInt_le, ← Int64.toInt_inj, Int32.toInt_toInt64, Int32.reduceToInt, Int64.reduceToInt] at t_230_18
            refine lv_aload_n hx hb dX8_readLine_233 rfl (lv_at hl 3 rfl) ?_
            refine lv_iconst (v := 4) hx hb dX8_readLine_234 (by decide) ?_
            refine lv_ldc2 (v := 4096) hx hb hown (hts (.constantLong RX8 280 (4096)) (List.mem_of_getElem? (i := 10) rfl)) dX8_readLine_235 ?_
            refine kCallL (wr := [(mA, .inl (cI, 200, .inl (upd fA k.toNatClampNeg r_1.toInt32))), (mB, .inl (cL, 200, .inr (.inl fB))), (mW, .inl (cZ, 200, .inl (upd fW k.toNatClampNeg (vp_nar .boolean 0))))]) (va_runV (As := [.int 4, .long 4096]) (rest := []) ⟨hx, hb, hml, hown, hts⟩ (q_figures l D cI cL cB cZ cT _ m0 mH mI mJ mS mD mX mA mB mW mL aM aC mM mQ oV pL lI sW dP sT aT cH iW iH aE mN sZ tS (u_r_11.1) (u_r_11.2) lS fX 4 4096 4 4095 (by decide) (by decide) (by decide) (by omega) (by omega)) (cwV 2 hts gX8_readLine_X8_figures rfl rfl rfl (by decide +kernel) ⟨Nat.le_of_ble_eq_true rfl, Nat.le_of_ble_eq_true rfl⟩) (kPreV hG hP hD [3, 4] rfl (by decide) 0 8 rfl rfl rfl) rfl rfl hl.1 rfl (lv_room (Nat.le_of_ble_eq_true rfl)) dX8_readLine_238 ⟨Nat.le_of_ble_eq_true rfl, Nat.le_of_ble_eq_true rfl⟩) hA hP hD hS [3, 4] [0, 1, 2] rfl rfl (by decide) (by decide) (fun r_22 u_r_22 H locs wr_22 hP hD hS => ?_)
            have hP : va_P D vwCl [(mA, .inl (cI, 200, .inl (upd fA k.toNatClampNeg r_1.toInt32))), (mB, .inl (cL, 200, .inr (.inl fB))), (mW, .inl (cZ, 200, .inl (upd fW k.toNatClampNeg (vp_nar .boolean 0)))), (m0, .inr (8, [.ref mH, .int aM, .long aC, .int mM, .long mQ, .int oV, .int pL, .int lI, .int sW, .int dP, .int sT, .long aT, .int cH, .int iW, .ref mI, .ref mJ, .ref mS, .ref mD, .int iH, .int aE, .int mN, .long sZ, .ref mX, .int tS, .int u_r_22.1, .int u_r_22.2, .ref mA, .ref mB, .ref mW, .ref mL, .int lS])), (mX, .inl (cB, 2000, .inl fX))] H := hP
            have hD : va_D A [(mA, .inl (cI, 200, .inl (upd fA k.toNatClampNeg r_1.toInt32))), (mB, .inl (cL, 200, .inr (.inl fB))), (mW, .inl (cZ, 200, .inl (upd fW k.toNatClampNeg (vp_nar .boolean 0)))), (m0, .inr (8, [.ref mH, .int aM, .long aC, .int mM, .long mQ, .int oV, .int pL, .int lI, .int sW, .int dP, .int sT, .long aT, .int cH, .int iW, .ref mI, .ref mJ, .ref mS, .ref mD, .int iH, .int aE, .int mN, .long sZ, .ref mX, .int tS, .int u_r_22.1, .int u_r_22.2, .ref mA, .ref mB, .ref mW, .ref mL, .int lS])), (mX, .inl (cB, 2000, .inl fX))] := hD
            try dsimp only at wr_22
            try simp only [Int32.reduceToInt, Int64.reduceToInt] at wr_22
            obtain ⟨wr_22_0, wr_22_1, wr_22_2⟩ := wr_22
            have rgr_22 := kNm_r (f := fX) hts2 4 (u_r_11.1) 0 (by omega) (by omega)
            rw [← wr_22_1] at rgr_22
            have wnr_22 := kif_w wr_22_2 (by omega) (by omega)
            refine lv_goto (tgt := 245) hx hb dX8_readLine_241 (by decide) ?_
            refine lv_lstore (lv' := [(6, .long r_22), (5, .int 1), (3, .long r_6), (2, .int tA), (0, .ref m0), (1, .int k)]) hx hb dX8_readLine_245 hl (by decide) rfl (fun ls hl => ?_)
            refine lv_aload_n hx hb dX8_readLine_247 rfl (lv_at hl 4 rfl) ?_
            refine va_get (D := D) (ci := 8) (v := .ref mB) (C := RX8) (T := TX8) (N := 31) hx hb hts iX8_readLine_X8 hown hK hP 3 rfl rfl 27 (by decide) (hts (.fieldLink RX8 33 "TapeCalculatorModel" "lineBits" "[J") (List.mem_of_getElem? (i := 8) rfl)) (fun _ h9 => h9) rfl dX8_readLine_248 ?_
            refine lv_iload_n hx hb dX8_readLine_251 rfl (lv_at hl 5 rfl) ?_
            refine lv_iload hx hb dX8_readLine_252 (lv_at hl 1 rfl) ?_
            refine lv_if_eq (tgt := 263) hx hb dX8_readLine_254 (by decide) (fun c_254_22 => ?_) (fun c_254_22 => ?_)
            · exact absurd c_254_22 (by decide)
            · have t_254_22 := c_254_22
              try simp only [kb_eq0, kb_ne0, lg_cmp_lt, lg_cmp_le, lg_cmp_gt, lg_cmp_ge, lg_cmp_eq] at t_254_22
              try simp only [Int32.lt_iff_toInt_lt, Int32.le_iff_toInt_le, ← Int32.toInt_inj, Int64.lt_iff_toInt_lt, Int64.le_iff_toInt_le, ← Int64.toInt_inj, Int32.toInt_toInt64, Int32.reduceToInt, Int64.reduceToInt] at t_254_22
              refine lv_ldc2 (v := 131072) hx hb hown (hts (.constantLong RX8 276 (131072)) (List.mem_of_getElem? (i := 7) rfl)) dX8_readLine_257 ?_
              refine lv_goto (tgt := 264) hx hb dX8_readLine_260 (by decide) ?_
              refine lv_lload_n hx hb dX8_readLine_264 rfl (lv_at hl 2 rfl) ?_
              refine lv_bipush (v := 12) hx hb dX8_readLine_265 (by decide) ?_
              refine lv_lshl hx hb dX8_readLine_267 rfl ?_
              refine lv_lor hx hb dX8_readLine_268 ?_
              refine lv_lload hx hb dX8_readLine_269 (lv_at hl 0 rfl) ?_
              refine lv_lor hx hb dX8_readLine_271 ?_
              refine va_last hx hb hK hP hD hS 1 1 rfl rfl (vp_in_iff.mpr (by omega)) dX8_readLine_272 (fun H locs hP hD hS => ?_)
              have hP : va_P D vwCl [(mA, .inl (cI, 200, .inl (upd fA k.toNatClampNeg r_1.toInt32))), (mB, .inl (cL, 200, .inr (.inl (vp_updL fB k.toNatClampNeg ((131072 ||| (r_6 <<< ((12 : Int32).toInt64 &&& 63))) ||| r_22))))), (mW, .inl (cZ, 200, .inl (upd fW k.toNatClampNeg (vp_nar .boolean 0)))), (m0, .inr (8, [.ref mH, .int aM, .long aC, .int mM, .long mQ, .int oV, .int pL, .int lI, .int sW, .int dP, .int sT, .long aT, .int cH, .int iW, .ref mI, .ref mJ, .ref mS, .ref mD, .int iH, .int aE, .int mN, .long sZ, .ref mX, .int tS, .int u_r_22.1, .int u_r_22.2, .ref mA, .ref mB, .ref mW, .ref mL, .int lS])), (mX, .inl (cB, 2000, .inl fX))] H := hP
              have hD : va_D A [(mA, .inl (cI, 200, .inl (upd fA k.toNatClampNeg r_1.toInt32))), (mB, .inl (cL, 200, .inr (.inl (vp_updL fB k.toNatClampNeg ((131072 ||| (r_6 <<< ((12 : Int32).toInt64 &&& 63))) ||| r_22))))), (mW, .inl (cZ, 200, .inl (upd fW k.toNatClampNeg (vp_nar .boolean 0)))), (m0, .inr (8, [.ref mH, .int aM, .long aC, .int mM, .long mQ, .int oV, .int pL, .int lI, .int sW, .int dP, .int sT, .long aT, .int cH, .int iW, .ref mI, .ref mJ, .ref mS, .ref mD, .int iH, .int aE, .int mN, .long sZ, .ref mX, .int tS, .int u_r_22.1, .int u_r_22.2, .ref mA, .ref mB, .ref mW, .ref mL, .int lS])), (mX, .inl (cB, 2000, .inl fX))] := hD
              refine lv_aload_n hx hb dX8_readLine_273 rfl (lv_at hl 4 rfl) ?_
              refine lv_bipush (v := 10) hx hb dX8_readLine_274 (by decide) ?_
              refine kCallVd (wr := [(mA, .inl (cI, 200, .inl (upd fA k.toNatClampNeg r_1.toInt32))), (mB, .inl (cL, 200, .inr (.inl (vp_updL fB k.toNatClampNeg ((131072 ||| (r_6 <<< ((12 : Int32).toInt64 &&& 63))) ||| r_22))))), (mW, .inl (cZ, 200, .inl (upd fW k.toNatClampNeg (vp_nar .boolean 0))))]) (va_runV (As := [.int 10]) (rest := []) ⟨hx, hb, hml, hown, hts⟩ (q_expect l D cI cL cB cZ cT _ m0 mH mI mJ mS mD mX mA mB mW mL aM aC mM mQ oV pL lI sW dP sT aT cH iW iH aE mN sZ tS (u_r_22.1) (u_r_22.2) lS fX 10 10 (by decide) (by omega) (by omega)) (cwV 1 hts gX8_readLine_X8_expect rfl rfl rfl (by decide +kernel) ⟨Nat.le_of_ble_eq_true rfl, Nat.le_of_ble_eq_true rfl⟩) (kPreV hG hP hD [3, 4] rfl (by decide) 0 8 rfl rfl rfl) rfl rfl hl.1 rfl (lv_room (Nat.le_of_ble_eq_true rfl)) dX8_readLine_276 ⟨Nat.le_of_ble_eq_true rfl, Nat.le_of_ble_eq_true rfl⟩) hA hP hD hS [3, 4] [0, 1, 2] rfl rfl (by decide) (by decide) (fun _ u_r_24 H locs wr_24 hP hD hS => ?_)
              have hP : va_P D vwCl [(mA, .inl (cI, 200, .inl (upd fA k.toNatClampNeg r_1.toInt32))), (mB, .inl (cL, 200, .inr (.inl (vp_updL fB k.toNatClampNeg ((131072 ||| (r_6 <<< ((12 : Int32).toInt64 &&& 63))) ||| r_22))))), (mW, .inl (cZ, 200, .inl (upd fW k.toNatClampNeg (vp_nar .boolean 0)))), (m0, .inr (8, [.ref mH, .int aM, .long aC, .int mM, .long mQ, .int oV, .int pL, .int lI, .int sW, .int dP, .int sT, .long aT, .int cH, .int iW, .ref mI, .ref mJ, .ref mS, .ref mD, .int iH, .int aE, .int mN, .long sZ, .ref mX, .int tS, .int u_r_24.1, .int u_r_24.2, .ref mA, .ref mB, .ref mW, .ref mL, .int lS])), (mX, .inl (cB, 2000, .inl fX))] H := hP
              have hD : va_D A [(mA, .inl (cI, 200, .inl (upd fA k.toNatClampNeg r_1.toInt32))), (mB, .inl (cL, 200, .inr (.inl (vp_updL fB k.toNatClampNeg ((131072 ||| (r_6 <<< ((12 : Int32).toInt64 &&& 63))) ||| r_22))))), (mW, .inl (cZ, 200, .inl (upd fW k.toNatClampNeg (vp_nar .boolean 0)))), (m0, .inr (8, [.ref mH, .int aM, .long aC, .int mM, .long mQ, .int oV, .int pL, .int lI, .int sW, .int dP, .int sT, .long aT, .int cH, .int iW, .ref mI, .ref mJ, .ref mS, .ref mD, .int iH, .int aE, .int mN, .long sZ, .ref mX, .int tS, .int u_r_24.1, .int u_r_24.2, .ref mA, .ref mB, .ref mW, .ref mL, .int lS])), (mX, .inl (cB, 2000, .inl fX))] := hD
              try dsimp only at wr_24
              try simp only [Int32.reduceToInt, Int64.reduceToInt] at wr_24
              obtain ⟨wr_24_0, wr_24_1⟩ := wr_24
              have rgr_24 : (u_r_22.1).toInt ≤ (u_r_24.1).toInt ∧ (u_r_24.1).toInt ≤ tS.toInt := by
                by_cases h7 : (u_r_22.2).toInt < 0
                · rw [(wr_24_0 h7).1]; exact kSk_r (by omega) hts2 (by decide)
                · rw [(wr_24_1 h7).1]; omega
              have wnr_24 : 0 ≤ (u_r_24.2).toInt ∨ (u_r_24.2).toInt = -1 := by
                by_cases h7 : (u_r_22.2).toInt < 0
                · exact kif_w (wr_24_0 h7).2 (by omega) (by omega)
                · rw [(wr_24_1 h7).2]; omega
              refine kVret (u := (u_r_24.1, u_r_24.2, (upd fA k.toNatClampNeg r_1.toInt32), (vp_updL fB k.toNatClampNeg ((131072 ||| (r_6 <<< ((12 : Int32).toInt64 &&& 63))) ||| r_22)), (upd fW k.toNatClampNeg (vp_nar .boolean 0)))) hx hb hr hlocks hS dX8_readLine_279 ?_ (hP.sub [3, 4, 0, 1, 2] rfl) (hD.sub [3, 4, 0, 1, 2] (by decide) rfl)
              try dsimp only
              have FR := kFr_r (f := fX) hta hts2 htw wr_1_0 wr_1_1 wr_1_2 wr_2_0 wr_2_1
              have F2 := FR.resolve_left (fun h => absurd h.1 (by omega))
              obtain ⟨F3, F4, F5⟩ := F2
              rw [F4]
              obtain ⟨Y1, Y2⟩ := kLb_y (f := fX) (a := tA) (v := r_1) (by omega) (by omega) wr_6_2 (by omega)
              rw [Y1, ← wr_6_1]
              refine ⟨kTl_y (f := fX) (by omega) hts2 (by rw [Y2]; exact F3) wr_11_1 wr_11_2 (by omega) wr_22_1 wr_22_2 wr_24_0 wr_24_1, by omega, fun j hj => ⟨?_, ?_⟩, ?_, ?_⟩
              · first | exact pk_un hj | exact (pk_un hj).trans (pk_un hj) | rfl
              · first | rfl | exact pk_un hj | exact (pk_un hj).trans (pk_un hj)
              · by_cases hz : 0 ≤ (u_r_24.2).toInt
                · exact Or.inl hz
                · right
                  have hx8 := k_l2i (v := r_1) (by omega)
                  refine ⟨by rw [pk_us]; omega, ?_⟩
                  first | exact Or.inl (pk_us.trans rfl) | exact (Or.inl (pk_us.trans rfl))
              · omega
    · have t_47_4 := c_47_4
      try simp only [kb_eq0, kb_ne0, lg_cmp_lt, lg_cmp_le, lg_cmp_gt, lg_cmp_ge, lg_cmp_eq] at t_47_4
      try simp only [Int32.lt_iff_toInt_lt, Int32.le_iff_toInt_le, ← Int32.toInt_inj, Int64.lt_iff_toInt_lt, Int64.le_iff_toInt_le, ← Int64.toInt_inj, Int32.toInt_toInt64, Int32.reduceToInt, Int64.reduceToInt] at t_47_4
      refine lv_aload_n hx hb dX8_readLine_50 rfl (lv_at hl 1 rfl) ?_
      refine lv_dup hx hb dX8_readLine_51 rfl ?_
      refine va_get (D := D) (ci := 8) (v := .int u_r_2.1) (C := RX8) (T := TX8) (N := 31) hx hb hts iX8_readLine_X8 hown hK hP 3 rfl rfl 24 (by decide) (hts (.fieldLink RX8 246 "TapeCalculatorModel" "at" "I") (List.mem_of_getElem? (i := 1) rfl)) (fun _ h9 => h9) rfl dX8_readLine_52 ?_
      refine lv_iconst (v := 1) hx hb dX8_readLine_55 (by decide) ?_
      refine lv_iadd hx hb dX8_readLine_56 ?_
      refine lv_topi (fun x_25 ex_25 => ?_)
      refine va_put (D := D) (ci := 8) (v := .int x_25) (ty := .int) (C := RX8) (T := TX8) (N := 31) hx hb hts iX8_readLine_X8 tyX8 tyX8_ok nmX8 hown hK hP hD hS 3 rfl rfl 24 (by decide) (hts (.fieldLink RX8 246 "TapeCalculatorModel" "at" "I") (List.mem_of_getElem? (i := 1) rfl)) (fun _ h9 => h9) rfl (by decide +kernel) rfl rfl (Nat.le_of_ble_eq_true rfl) dX8_readLine_57 (fun H locs hP hD hS => ?_)
      have hP : va_P D vwCl [(mA, .inl (cI, 200, .inl (upd fA k.toNatClampNeg r_1.toInt32))), (mB, .inl (cL, 200, .inr (.inl fB))), (mW, .inl (cZ, 200, .inl (upd fW k.toNatClampNeg (vp_nar .boolean 0)))), (m0, .inr (8, [.ref mH, .int aM, .long aC, .int mM, .long mQ, .int oV, .int pL, .int lI, .int sW, .int dP, .int sT, .long aT, .int cH, .int iW, .ref mI, .ref mJ, .ref mS, .ref mD, .int iH, .int aE, .int mN, .long sZ, .ref mX, .int tS, .int x_25, .int u_r_2.2, .ref mA, .ref mB, .ref mW, .ref mL, .int lS])), (mX, .inl (cB, 2000, .inl fX))] H := hP
      have hD : va_D A [(mA, .inl (cI, 200, .inl (upd fA k.toNatClampNeg r_1.toInt32))), (mB, .inl (cL, 200, .inr (.inl fB))), (mW, .inl (cZ, 200, .inl (upd fW k.toNatClampNeg (vp_nar .boolean 0)))), (m0, .inr (8, [.ref mH, .int aM, .long aC, .int mM, .long mQ, .int oV, .int pL, .int lI, .int sW, .int dP, .int sT, .long aT, .int cH, .int iW, .ref mI, .ref mJ, .ref mS, .ref mD, .int iH, .int aE, .int mN, .long sZ, .ref mX, .int tS, .int x_25, .int u_r_2.2, .ref mA, .ref mB, .ref mW, .ref mL, .int lS])), (mX, .inl (cB, 2000, .inl fX))] := hD
      have hcx_25 := kHere_c (a := u_r_2.1) (t := tS) (f := fX) (by omega)
      have hdx_25 := k_addg (a := u_r_2.1) (b := 1) (by omega) (by decide)
      simp only [Int32.reduceToInt] at hdx_25
      rw [← ex_25] at hdx_25
      refine lv_aload_n hx hb dX8_readLine_60 rfl (lv_at hl 1 rfl) ?_
      refine kCallI (wr := [(mA, .inl (cI, 200, .inl (upd fA k.toNatClampNeg r_1.toInt32))), (mB, .inl (cL, 200, .inr (.inl fB))), (mW, .inl (cZ, 200, .inl (upd fW k.toNatClampNeg (vp_nar .boolean 0))))]) (va_runV (As := []) (rest := []) ⟨hx, hb, hml, hown, hts⟩ (q_here l D cI cL cB cZ cT _ m0 mH mI mJ mS mD mX mA mB mW mL aM aC mM mQ oV pL lI sW dP sT aT cH iW iH aE mN sZ tS x_25 (u_r_2.2) lS fX (by omega) (by omega)) (cwV 0 hts gX8_readLine_X8_here rfl rfl rfl (by decide +kernel) ⟨Nat.le_of_ble_eq_true rfl, Nat.le_of_ble_eq_true rfl⟩) (kPreV hG hP hD [3, 4] rfl (by decide) 0 8 rfl rfl rfl) rfl rfl hl.1 rfl (lv_room (Nat.le_of_ble_eq_true rfl)) dX8_readLine_61 ⟨Nat.le_of_ble_eq_true rfl, Nat.le_of_ble_eq_true rfl⟩) hA hP hD hS [3, 4] [0, 1, 2] rfl rfl (by decide) (by decide) (fun r_26 u_r_26 H locs wr_26 hP hD hS => ?_)
      have hP : va_P D vwCl [(mA, .inl (cI, 200, .inl (upd fA k.toNatClampNeg r_1.toInt32))), (mB, .inl (cL, 200, .inr (.inl fB))), (mW, .inl (cZ, 200, .inl (upd fW k.toNatClampNeg (vp_nar .boolean 0)))), (m0, .inr (8, [.ref mH, .int aM, .long aC, .int mM, .long mQ, .int oV, .int pL, .int lI, .int sW, .int dP, .int sT, .long aT, .int cH, .int iW, .ref mI, .ref mJ, .ref mS, .ref mD, .int iH, .int aE, .int mN, .long sZ, .ref mX, .int tS, .int x_25, .int u_r_2.2, .ref mA, .ref mB, .ref mW, .ref mL, .int lS])), (mX, .inl (cB, 2000, .inl fX))] H := hP
      have hD : va_D A [(mA, .inl (cI, 200, .inl (upd fA k.toNatClampNeg r_1.toInt32))), (mB, .inl (cL, 200, .inr (.inl fB))), (mW, .inl (cZ, 200, .inl (upd fW k.toNatClampNeg (vp_nar .boolean 0)))), (m0, .inr (8, [.ref mH, .int aM, .long aC, .int mM, .long mQ, .int oV, .int pL, .int lI, .int sW, .int dP, .int sT, .long aT, .int cH, .int iW, .ref mI, .ref mJ, .ref mS, .ref mD, .int iH, .int aE, .int mN, .long sZ, .ref mX, .int tS, .int x_25, .int u_r_2.2, .ref mA, .ref mB, .ref mW, .ref mL, .int lS])), (mX, .inl (cB, 2000, .inl fX))] := hD
      try dsimp only at wr_26
      subst wr_26
      refine lv_bipush (v := 61) hx hb dX8_readLine_64 (by decide) ?_
      refine lv_icmp_ne (tgt := 73) hx hb dX8_readLine_66 (by decide) (fun c_66_26 => ?_) (fun c_66_26 => ?_)
      · have t_66_26 := c_66_26
        try simp only [kb_eq0, kb_ne0, lg_cmp_lt, lg_cmp_le, lg_cmp_gt, lg_cmp_ge, lg_cmp_eq] at t_66_26
        try simp only [Int32.lt_iff_toInt_lt, Int32.le_iff_toInt_le, ← Int32.toInt_inj, Int64.lt_iff_toInt_lt, Int64.le_iff_toInt_le, ← Int64.toInt_inj, Int32.toInt_toInt64, Int32.reduceToInt, Int64.reduceToInt] at t_66_26
        refine lv_iconst (v := 0) hx hb dX8_readLine_73 (by decide) ?_
        refine lv_istore_n (lv' := [(3, .int 0), (2, .int tA), (0, .ref m0), (1, .int k)]) hx hb dX8_readLine_74 rfl hl (by decide) rfl (fun ls hl => ?_)
        refine lv_aload_n hx hb dX8_readLine_75 rfl (lv_at hl 2 rfl) ?_
        refine lv_dup hx hb dX8_readLine_76 rfl ?_
        refine va_get (D := D) (ci := 8) (v := .int x_25) (C := RX8) (T := TX8) (N := 31) hx hb hts iX8_readLine_X8 hown hK hP 3 rfl rfl 24 (by decide) (hts (.fieldLink RX8 246 "TapeCalculatorModel" "at" "I") (List.mem_of_getElem? (i := 1) rfl)) (fun _ h9 => h9) rfl dX8_readLine_77 ?_
        refine lv_iload_n hx hb dX8_readLine_80 rfl (lv_at hl 0 rfl) ?_
        refine lv_if_eq (tgt := 88) hx hb dX8_readLine_81 (by decide) (fun c_81_27 => ?_) (fun c_81_27 => ?_)
        · have t_81_27 := c_81_27
          try simp only [kb_eq0, kb_ne0, lg_cmp_lt, lg_cmp_le, lg_cmp_gt, lg_cmp_ge, lg_cmp_eq] at t_81_27
          try simp only [Int32.lt_iff_toInt_lt, Int32.le_iff_toInt_le, ← Int32.toInt_inj, Int64.lt_iff_toInt_lt, Int64.le_iff_toInt_le, ← Int64.toInt_inj, Int32.toInt_toInt64, Int32.reduceToInt, Int64.reduceToInt] at t_81_27
          refine lv_iconst (v := 0) hx hb dX8_readLine_88 (by decide) ?_
          refine lv_iadd hx hb dX8_readLine_89 ?_
          refine lv_topi (fun x_29 ex_29 => ?_)
          refine va_put (D := D) (ci := 8) (v := .int x_29) (ty := .int) (C := RX8) (T := TX8) (N := 31) hx hb hts iX8_readLine_X8 tyX8 tyX8_ok nmX8 hown hK hP hD hS 3 rfl rfl 24 (by decide) (hts (.fieldLink RX8 246 "TapeCalculatorModel" "at" "I") (List.mem_of_getElem? (i := 1) rfl)) (fun _ h9 => h9) rfl (by decide +kernel) rfl rfl (Nat.le_of_ble_eq_true rfl) dX8_readLine_90 (fun H locs hP hD hS => ?_)
          have hP : va_P D vwCl [(mA, .inl (cI, 200, .inl (upd fA k.toNatClampNeg r_1.toInt32))), (mB, .inl (cL, 200, .inr (.inl fB))), (mW, .inl (cZ, 200, .inl (upd fW k.toNatClampNeg (vp_nar .boolean 0)))), (m0, .inr (8, [.ref mH, .int aM, .long aC, .int mM, .long mQ, .int oV, .int pL, .int lI, .int sW, .int dP, .int sT, .long aT, .int cH, .int iW, .ref mI, .ref mJ, .ref mS, .ref mD, .int iH, .int aE, .int mN, .long sZ, .ref mX, .int tS, .int x_29, .int u_r_2.2, .ref mA, .ref mB, .ref mW, .ref mL, .int lS])), (mX, .inl (cB, 2000, .inl fX))] H := hP
          have hD : va_D A [(mA, .inl (cI, 200, .inl (upd fA k.toNatClampNeg r_1.toInt32))), (mB, .inl (cL, 200, .inr (.inl fB))), (mW, .inl (cZ, 200, .inl (upd fW k.toNatClampNeg (vp_nar .boolean 0)))), (m0, .inr (8, [.ref mH, .int aM, .long aC, .int mM, .long mQ, .int oV, .int pL, .int lI, .int sW, .int dP, .int sT, .long aT, .int cH, .int iW, .ref mI, .ref mJ, .ref mS, .ref mD, .int iH, .int aE, .int mN, .long sZ, .ref mX, .int tS, .int x_29, .int u_r_2.2, .ref mA, .ref mB, .ref mW, .ref mL, .int lS])), (mX, .inl (cB, 2000, .inl fX))] := hD
          have hdx_29 := k_addg (a := x_25) (b := 0) (by omega) (by decide)
          simp only [Int32.reduceToInt] at hdx_29
          rw [← ex_29] at hdx_29
          refine lv_aload_n hx hb dX8_readLine_93 rfl (lv_at hl 2 rfl) ?_
          refine va_get (D := D) (ci := 8) (v := .ref mW) (C := RX8) (T := TX8) (N := 31) hx hb hts iX8_readLine_X8 hown hK hP 3 rfl rfl 28 (by decide) (hts (.fieldLink RX8 36 "TapeCalculatorModel" "lineWhole" "[Z") (List.mem_of_getElem? (i := 5) rfl)) (fun _ h9 => h9) rfl dX8_readLine_94 ?_
          refine lv_iload_n hx hb dX8_readLine_97 rfl (lv_at hl 3 rfl) ?_
          refine lv_iload_n hx hb dX8_readLine_98 rfl (lv_at hl 0 rfl) ?_
          refine va_zast hx hb hK hP hD hS 2 3 rfl rfl (vp_in_iff.mpr (by omega)) dX8_readLine_99 (fun H locs hP hD hS => ?_)
          have hP : va_P D vwCl [(mA, .inl (cI, 200, .inl (upd fA k.toNatClampNeg r_1.toInt32))), (mB, .inl (cL, 200, .inr (.inl fB))), (mW, .inl (cZ, 200, .inl (upd (upd fW k.toNatClampNeg (vp_nar .boolean 0)) k.toNatClampNeg (vp_nar .boolean 0)))), (m0, .inr (8, [.ref mH, .int aM, .long aC, .int mM, .long mQ, .int oV, .int pL, .int lI, .int sW, .int dP, .int sT, .long aT, .int cH, .int iW, .ref mI, .ref mJ, .ref mS, .ref mD, .int iH, .int aE, .int mN, .long sZ, .ref mX, .int tS, .int x_29, .int u_r_2.2, .ref mA, .ref mB, .ref mW, .ref mL, .int lS])), (mX, .inl (cB, 2000, .inl fX))] H := hP
          have hD : va_D A [(mA, .inl (cI, 200, .inl (upd fA k.toNatClampNeg r_1.toInt32))), (mB, .inl (cL, 200, .inr (.inl fB))), (mW, .inl (cZ, 200, .inl (upd (upd fW k.toNatClampNeg (vp_nar .boolean 0)) k.toNatClampNeg (vp_nar .boolean 0)))), (m0, .inr (8, [.ref mH, .int aM, .long aC, .int mM, .long mQ, .int oV, .int pL, .int lI, .int sW, .int dP, .int sT, .long aT, .int cH, .int iW, .ref mI, .ref mJ, .ref mS, .ref mD, .int iH, .int aE, .int mN, .long sZ, .ref mX, .int tS, .int x_29, .int u_r_2.2, .ref mA, .ref mB, .ref mW, .ref mL, .int lS])), (mX, .inl (cB, 2000, .inl fX))] := hD
          refine lv_iload_n hx hb dX8_readLine_100 rfl (lv_at hl 0 rfl) ?_
          refine lv_if_eq (tgt := 122) hx hb dX8_readLine_101 (by decide) (fun c_101_29 => ?_) (fun c_101_29 => ?_)
          · have t_101_29 := c_101_29
            try simp only [kb_eq0, kb_ne0, lg_cmp_lt, lg_cmp_le, lg_cmp_gt, lg_cmp_ge, lg_cmp_eq] at t_101_29
            try simp only [Int32.lt_iff_toInt_lt, Int32.le_iff_toInt_le, ← Int32.toInt_inj, Int64.lt_iff_toInt_lt, Int64.le_iff_toInt_le, ← Int64.toInt_inj, Int32.toInt_toInt64, Int32.reduceToInt, Int64.reduceToInt] at t_101_29
            refine lv_aload_n hx hb dX8_readLine_122 rfl (lv_at hl 2 rfl) ?_
            refine kCallI (wr := [(mA, .inl (cI, 200, .inl (upd fA k.toNatClampNeg r_1.toInt32))), (mB, .inl (cL, 200, .inr (.inl fB))), (mW, .inl (cZ, 200, .inl (upd (upd fW k.toNatClampNeg (vp_nar .boolean 0)) k.toNatClampNeg (vp_nar .boolean 0))))]) (va_runV (As := []) (rest := []) ⟨hx, hb, hml, hown, hts⟩ (q_sign l D cI cL cB cZ cT _ m0 mH mI mJ mS mD mX mA mB mW mL aM aC mM mQ oV pL lI sW dP sT aT cH iW iH aE mN sZ tS x_29 (u_r_2.2) lS fX (by omega) (by omega)) (cwV 0 hts gX8_readLine_X8_sign rfl rfl rfl (by decide +kernel) ⟨Nat.le_of_ble_eq_true rfl, Nat.le_of_ble_eq_true rfl⟩) (kPreV hG hP hD [3, 4] rfl (by decide) 0 8 rfl rfl rfl) rfl rfl hl.1 rfl (lv_room (Nat.le_of_ble_eq_true rfl)) dX8_readLine_123 ⟨Nat.le_of_ble_eq_true rfl, Nat.le_of_ble_eq_true rfl⟩) hA hP hD hS [3, 4] [0, 1, 2] rfl rfl (by decide) (by decide) (fun r_31 u_r_31 H locs wr_31 hP hD hS => ?_)
            have hP : va_P D vwCl [(mA, .inl (cI, 200, .inl (upd fA k.toNatClampNeg r_1.toInt32))), (mB, .inl (cL, 200, .inr (.inl fB))), (mW, .inl (cZ, 200, .inl (upd (upd fW k.toNatClampNeg (vp_nar .boolean 0)) k.toNatClampNeg (vp_nar .boolean 0)))), (m0, .inr (8, [.ref mH, .int aM, .long aC, .int mM, .long mQ, .int oV, .int pL, .int lI, .int sW, .int dP, .int sT, .long aT, .int cH, .int iW, .ref mI, .ref mJ, .ref mS, .ref mD, .int iH, .int aE, .int mN, .long sZ, .ref mX, .int tS, .int u_r_31.1, .int u_r_31.2, .ref mA, .ref mB, .ref mW, .ref mL, .int lS])), (mX, .inl (cB, 2000, .inl fX))] H := hP
            have hD : va_D A [(mA, .inl (cI, 200, .inl (upd fA k.toNatClampNeg r_1.toInt32))), (mB, .inl (cL, 200, .inr (.inl fB))), (mW, .inl (cZ, 200, .inl (upd (upd fW k.toNatClampNeg (vp_nar .boolean 0)) k.toNatClampNeg (vp_nar .boolean 0)))), (m0, .inr (8, [.ref mH, .int aM, .long aC, .int mM, .long mQ, .int oV, .int pL, .int lI, .int sW, .int dP, .int sT, .long aT, .int cH, .int iW, .ref mI, .ref mJ, .ref mS, .ref mD, .int iH, .int aE, .int mN, .long sZ, .ref mX, .int tS, .int u_r_31.1, .int u_r_31.2, .ref mA, .ref mB, .ref mW, .ref mL, .int lS])), (mX, .inl (cB, 2000, .inl fX))] := hD
            try dsimp only at wr_31
            try simp only [Int32.reduceToInt, Int64.reduceToInt] at wr_31
            obtain ⟨wr_31_0, wr_31_1, wr_31_2⟩ := wr_31
            have rgr_31 := kSg_r (a := x_29) (t := tS) (f := fX) (by omega) hts2
            rw [← wr_31_1] at rgr_31
            have wnr_31 := kif_w wr_31_2 (by omega) (by omega)
            refine lv_istore (lv' := [(4, .int r_31), (3, .int 0), (2, .int tA), (0, .ref m0), (1, .int k)]) hx hb dX8_readLine_126 hl (by decide) rfl (fun ls hl => ?_)
            refine lv_aload_n hx hb dX8_readLine_128 rfl (lv_at hl 3 rfl) ?_
            refine va_get (D := D) (ci := 8) (v := .int u_r_31.2) (C := RX8) (T := TX8) (N := 31) hx hb hts iX8_readLine_X8 hown hK hP 3 rfl rfl 25 (by decide) (hts (.fieldLink RX8 259 "TapeCalculatorModel" "wrong" "I") (List.mem_of_getElem? (i := 4) rfl)) (fun _ h9 => h9) rfl dX8_readLine_129 ?_
            refine lv_if_ge (tgt := 193) hx hb dX8_readLine_132 (by decide) (fun c_132_31 => ?_) (fun c_132_31 => ?_)
            · have t_132_31 := c_132_31
              try simp only [kb_eq0, kb_ne0, lg_cmp_lt, lg_cmp_le, lg_cmp_gt, lg_cmp_ge, lg_cmp_eq] at t_132_31
              try simp only [Int32.lt_iff_toInt_lt, Int32.le_iff_toInt_le, ← Int32.toInt_inj, Int64.lt_iff_toInt_lt, Int64.le_iff_toInt_le, ← Int64.toInt_inj, Int32.toInt_toInt64, Int32.reduceToInt, Int64.reduceToInt] at t_132_31
              refine lv_goto (tgt := 273) hx hb dX8_readLine_193 (by decide) ?_
              refine lv_aload_n hx hb dX8_readLine_273 rfl (lv_at hl 3 rfl) ?_
              refine lv_bipush (v := 10) hx hb dX8_readLine_274 (by decide) ?_
              refine kCallVd (wr := [(mA, .inl (cI, 200, .inl (upd fA k.toNatClampNeg r_1.toInt32))), (mB, .inl (cL, 200, .inr (.inl fB))), (mW, .inl (cZ, 200, .inl (upd (upd fW k.toNatClampNeg (vp_nar .boolean 0)) k.toNatClampNeg (vp_nar .boolean 0))))]) (va_runV (As := [.int 10]) (rest := []) ⟨hx, hb, hml, hown, hts⟩ (q_expect l D cI cL cB cZ cT _ m0 mH mI mJ mS mD mX mA mB mW mL aM aC mM mQ oV pL lI sW dP sT aT cH iW iH aE mN sZ tS (u_r_31.1) (u_r_31.2) lS fX 10 10 (by decide) (by omega) (by omega)) (cwV 1 hts gX8_readLine_X8_expect rfl rfl rfl (by decide +kernel) ⟨Nat.le_of_ble_eq_true rfl, Nat.le_of_ble_eq_true rfl⟩) (kPreV hG hP hD [3, 4] rfl (by decide) 0 8 rfl rfl rfl) rfl rfl hl.1 rfl (lv_room (Nat.le_of_ble_eq_true rfl)) dX8_readLine_276 ⟨Nat.le_of_ble_eq_true rfl, Nat.le_of_ble_eq_true rfl⟩) hA hP hD hS [3, 4] [0, 1, 2] rfl rfl (by decide) (by decide) (fun _ u_r_33 H locs wr_33 hP hD hS => ?_)
              have hP : va_P D vwCl [(mA, .inl (cI, 200, .inl (upd fA k.toNatClampNeg r_1.toInt32))), (mB, .inl (cL, 200, .inr (.inl fB))), (mW, .inl (cZ, 200, .inl (upd (upd fW k.toNatClampNeg (vp_nar .boolean 0)) k.toNatClampNeg (vp_nar .boolean 0)))), (m0, .inr (8, [.ref mH, .int aM, .long aC, .int mM, .long mQ, .int oV, .int pL, .int lI, .int sW, .int dP, .int sT, .long aT, .int cH, .int iW, .ref mI, .ref mJ, .ref mS, .ref mD, .int iH, .int aE, .int mN, .long sZ, .ref mX, .int tS, .int u_r_33.1, .int u_r_33.2, .ref mA, .ref mB, .ref mW, .ref mL, .int lS])), (mX, .inl (cB, 2000, .inl fX))] H := hP
              have hD : va_D A [(mA, .inl (cI, 200, .inl (upd fA k.toNatClampNeg r_1.toInt32))), (mB, .inl (cL, 200, .inr (.inl fB))), (mW, .inl (cZ, 200, .inl (upd (upd fW k.toNatClampNeg (vp_nar .boolean 0)) k.toNatClampNeg (vp_nar .boolean 0)))), (m0, .inr (8, [.ref mH, .int aM, .long aC, .int mM, .long mQ, .int oV, .int pL, .int lI, .int sW, .int dP, .int sT, .long aT, .int cH, .int iW, .ref mI, .ref mJ, .ref mS, .ref mD, .int iH, .int aE, .int mN, .long sZ, .ref mX, .int tS, .int u_r_33.1, .int u_r_33.2, .ref mA, .ref mB, .ref mW, .ref mL, .int lS])), (mX, .inl (cB, 2000, .inl fX))] := hD
              try dsimp only at wr_33
              try simp only [Int32.reduceToInt, Int64.reduceToInt] at wr_33
              obtain ⟨wr_33_0, wr_33_1⟩ := wr_33
              have rgr_33 : (u_r_31.1).toInt ≤ (u_r_33.1).toInt ∧ (u_r_33.1).toInt ≤ tS.toInt := by
                by_cases h7 : (u_r_31.2).toInt < 0
                · rw [(wr_33_0 h7).1]; exact kSk_r (by omega) hts2 (by decide)
                · rw [(wr_33_1 h7).1]; omega
              have wnr_33 : 0 ≤ (u_r_33.2).toInt ∨ (u_r_33.2).toInt = -1 := by
                by_cases h7 : (u_r_31.2).toInt < 0
                · exact kif_w (wr_33_0 h7).2 (by omega) (by omega)
                · rw [(wr_33_1 h7).2]; omega
              refine kVret (u := (u_r_33.1, u_r_33.2, (upd fA k.toNatClampNeg r_1.toInt32), fB, (upd (upd fW k.toNatClampNeg (vp_nar .boolean 0)) k.toNatClampNeg (vp_nar .boolean 0)))) hx hb hr hlocks hS dX8_readLine_279 ?_ (hP.sub [3, 4, 0, 1, 2] rfl) (hD.sub [3, 4, 0, 1, 2] (by decide) rfl)
              try dsimp only
              have FR := kFr_r (f := fX) hta hts2 htw wr_1_0 wr_1_1 wr_1_2 wr_2_0 wr_2_1
              have F2 := FR.resolve_left (fun h => absurd h.1 (by omega))
              obtain ⟨F3, F4, F5⟩ := F2
              rw [F4]
              rw [kLb_e (by omega) (by rw [← ex_25]; omega), ← ex_25, show x_25 = x_29 from k_inj (by omega)]
              refine ⟨kTl_x (f := fX) (by omega) F3 wr_31_2 (by omega) (wr_33_1 (by omega)).2, by omega, fun j hj => ⟨?_, ?_⟩, ?_, ?_⟩
              · first | exact pk_un hj | exact (pk_un hj).trans (pk_un hj) | rfl
              · first | rfl | exact pk_un hj | exact (pk_un hj).trans (pk_un hj)
              · by_cases hz : 0 ≤ (u_r_33.2).toInt
                · exact Or.inl hz
                · right
                  have hx8 := k_l2i (v := r_1) (by omega)
                  refine ⟨by rw [pk_us]; omega, ?_⟩
                  first | exact Or.inl (pk_us.trans rfl) | exact (Or.inl (pk_us.trans rfl))
              · omega
            · have t_132_31 := c_132_31
              try simp only [kb_eq0, kb_ne0, lg_cmp_lt, lg_cmp_le, lg_cmp_gt, lg_cmp_ge, lg_cmp_eq] at t_132_31
              try simp only [Int32.lt_iff_toInt_lt, Int32.le_iff_toInt_le, ← Int32.toInt_inj, Int64.lt_iff_toInt_lt, Int64.le_iff_toInt_le, ← Int64.toInt_inj, Int32.toInt_toInt64, Int32.reduceToInt, Int64.reduceToInt] at t_132_31
              refine lv_iload_n hx hb dX8_readLine_135 rfl (lv_at hl 1 rfl) ?_
              refine lv_if_eq (tgt := 151) hx hb dX8_readLine_136 (by decide) (fun c_136_33 => ?_) (fun c_136_33 => ?_)
              · have t_136_33 := c_136_33
                try simp only [kb_eq0, kb_ne0, lg_cmp_lt, lg_cmp_le, lg_cmp_gt, lg_cmp_ge, lg_cmp_eq] at t_136_33
                try simp only [Int32.lt_iff_toInt_lt, Int32.le_iff_toInt_le, ← Int32.toInt_inj, Int64.lt_iff_toInt_lt, Int64.le_iff_toInt_le, ← Int64.toInt_inj, Int32.toInt_toInt64, Int32.reduceToInt, Int64.reduceToInt] at t_136_33
                refine lv_aload_n hx hb dX8_readLine_151 rfl (lv_at hl 3 rfl) ?_
                refine lv_bipush (v := 6) hx hb dX8_readLine_152 (by decide) ?_
                refine lv_ldc2 (v := 131072) hx hb hown (hts (.constantLong RX8 276 (131072)) (List.mem_of_getElem? (i := 7) rfl)) dX8_readLine_154 ?_
                refine kCallL (wr := [(mA, .inl (cI, 200, .inl (upd fA k.toNatClampNeg r_1.toInt32))), (mB, .inl (cL, 200, .inr (.inl fB))), (mW, .inl (cZ, 200, .inl (upd (upd fW k.toNatClampNeg (vp_nar .boolean 0)) k.toNatClampNeg (vp_nar .boolean 0))))]) (va_runV (As := [.int 6, .long 131072]) (rest := []) ⟨hx, hb, hml, hown, hts⟩ (q_figures l D cI cL cB cZ cT _ m0 mH mI mJ mS mD mX mA mB mW mL aM aC mM mQ oV pL lI sW dP sT aT cH iW iH aE mN sZ tS (u_r_31.1) (u_r_31.2) lS fX 6 131072 6 131071 (by decide) (by decide) (by decide) (by omega) (by omega)) (cwV 2 hts gX8_readLine_X8_figures rfl rfl rfl (by decide +kernel) ⟨Nat.le_of_ble_eq_true rfl, Nat.le_of_ble_eq_true rfl⟩) (kPreV hG hP hD [3, 4] rfl (by decide) 0 8 rfl rfl rfl) rfl rfl hl.1 rfl (lv_room (Nat.le_of_ble_eq_true rfl)) dX8_readLine_157 ⟨Nat.le_of_ble_eq_true rfl, Nat.le_of_ble_eq_true rfl⟩) hA hP hD hS [3, 4] [0, 1, 2] rfl rfl (by decide) (by decide) (fun r_35 u_r_35 H locs wr_35 hP hD hS => ?_)
                have hP : va_P D vwCl [(mA, .inl (cI, 200, .inl (upd fA k.toNatClampNeg r_1.toInt32))), (mB, .inl (cL, 200, .inr (.inl fB))), (mW, .inl (cZ, 200, .inl (upd (upd fW k.toNatClampNeg (vp_nar .boolean 0)) k.toNatClampNeg (vp_nar .boolean 0)))), (m0, .inr (8, [.ref mH, .int aM, .long aC, .int mM, .long mQ, .int oV, .int pL, .int lI, .int sW, .int dP, .int sT, .long aT, .int cH, .int iW, .ref mI, .ref mJ, .ref mS, .ref mD, .int iH, .int aE, .int mN, .long sZ, .ref mX, .int tS, .int u_r_35.1, .int u_r_35.2, .ref mA, .ref mB, .ref mW, .ref mL, .int lS])), (mX, .inl (cB, 2000, .inl fX))] H := hP
                have hD : va_D A [(mA, .inl (cI, 200, .inl (upd fA k.toNatClampNeg r_1.toInt32))), (mB, .inl (cL, 200, .inr (.inl fB))), (mW, .inl (cZ, 200, .inl (upd (upd fW k.toNatClampNeg (vp_nar .boolean 0)) k.toNatClampNeg (vp_nar .boolean 0)))), (m0, .inr (8, [.ref mH, .int aM, .long aC, .int mM, .long mQ, .int oV, .int pL, .int lI, .int sW, .int dP, .int sT, .long aT, .int cH, .int iW, .ref mI, .ref mJ, .ref mS, .ref mD, .int iH, .int aE, .int mN, .long sZ, .ref mX, .int tS, .int u_r_35.1, .int u_r_35.2, .ref mA, .ref mB, .ref mW, .ref mL, .int lS])), (mX, .inl (cB, 2000, .inl fX))] := hD
                try dsimp only at wr_35
                try simp only [Int32.reduceToInt, Int64.reduceToInt] at wr_35
                obtain ⟨wr_35_0, wr_35_1, wr_35_2⟩ := wr_35
                have rgr_35 := kNm_r (f := fX) hts2 6 (u_r_31.1) 0 (by omega) (by omega)
                rw [← wr_35_1] at rgr_35
                have wnr_35 := kif_w wr_35_2 (by omega) (by omega)
                refine lv_lstore (lv' := [(5, .long r_35), (4, .int r_31), (3, .int 0), (2, .int tA), (0, .ref m0), (1, .int k)]) hx hb dX8_readLine_160 hl (by decide) rfl (fun ls hl => ?_)
                refine lv_aload_n hx hb dX8_readLine_162 rfl (lv_at hl 4 rfl) ?_
                refine va_get (D := D) (ci := 8) (v := .ref mB) (C := RX8) (T := TX8) (N := 31) hx hb hts iX8_readLine_X8 hown hK hP 3 rfl rfl 27 (by decide) (hts (.fieldLink RX8 33 "TapeCalculatorModel" "lineBits" "[J") (List.mem_of_getElem? (i := 8) rfl)) (fun _ h9 => h9) rfl dX8_readLine_163 ?_
                refine lv_iload_n hx hb dX8_readLine_166 rfl (lv_at hl 5 rfl) ?_
                refine lv_lload hx hb dX8_readLine_167 (lv_at hl 0 rfl) ?_
                refine lv_iload hx hb dX8_readLine_169 (lv_at hl 1 rfl) ?_
                refine lv_if_eq (tgt := 190) hx hb dX8_readLine_171 (by decide) (fun c_171_35 => ?_) (fun c_171_35 => ?_)
                · have t_171_35 := c_171_35
                  try simp only [kb_eq0, kb_ne0, lg_cmp_lt, lg_cmp_le, lg_cmp_gt, lg_cmp_ge, lg_cmp_eq] at t_171_35
                  try simp only [Int32.lt_iff_toInt_lt, Int32.le_iff_toInt_le, ← Int32.toInt_inj, Int64.lt_iff_toInt_lt, Int64.le_iff_toInt_le, ← Int64.toInt_inj, Int32.toInt_toInt64, Int32.reduceToInt, Int64.reduceToInt] at t_171_35
                  refine lv_lconst (v := 0) hx hb dX8_readLine_190 (by decide) ?_
                  refine lv_lor hx hb dX8_readLine_191 ?_
                  refine va_last hx hb hK hP hD hS 1 1 rfl rfl (vp_in_iff.mpr (by omega)) dX8_readLine_192 (fun H locs hP hD hS => ?_)
                  have hP : va_P D vwCl [(mA, .inl (cI, 200, .inl (upd fA k.toNatClampNeg r_1.toInt32))), (mB, .inl (cL, 200, .inr (.inl (vp_updL fB k.toNatClampNeg (r_35 ||| 0))))), (mW, .inl (cZ, 200, .inl (upd (upd fW k.toNatClampNeg (vp_nar .boolean 0)) k.toNatClampNeg (vp_nar .boolean 0)))), (m0, .inr (8, [.ref mH, .int aM, .long aC, .int mM, .long mQ, .int oV, .int pL, .int lI, .int sW, .int dP, .int sT, .long aT, .int cH, .int iW, .ref mI, .ref mJ, .ref mS, .ref mD, .int iH, .int aE, .int mN, .long sZ, .ref mX, .int tS, .int u_r_35.1, .int u_r_35.2, .ref mA, .ref mB, .ref mW, .ref mL, .int lS])), (mX, .inl (cB, 2000, .inl fX))] H := hP
                  have hD : va_D A [(mA, .inl (cI, 200, .inl (upd fA k.toNatClampNeg r_1.toInt32))), (mB, .inl (cL, 200, .inr (.inl (vp_updL fB k.toNatClampNeg (r_35 ||| 0))))), (mW, .inl (cZ, 200, .inl (upd (upd fW k.toNatClampNeg (vp_nar .boolean 0)) k.toNatClampNeg (vp_nar .boolean 0)))), (m0, .inr (8, [.ref mH, .int aM, .long aC, .int mM, .long mQ, .int oV, .int pL, .int lI, .int sW, .int dP, .int sT, .long aT, .int cH, .int iW, .ref mI, .ref mJ, .ref mS, .ref mD, .int iH, .int aE, .int mN, .long sZ, .ref mX, .int tS, .int u_r_35.1, .int u_r_35.2, .ref mA, .ref mB, .ref mW, .ref mL, .int lS])), (mX, .inl (cB, 2000, .inl fX))] := hD
                  refine lv_goto (tgt := 273) hx hb dX8_readLine_193 (by decide) ?_
                  refine lv_aload_n hx hb dX8_readLine_273 rfl (lv_at hl 4 rfl) ?_
                  refine lv_bipush (v := 10) hx hb dX8_readLine_274 (by decide) ?_
                  refine kCallVd (wr := [(mA, .inl (cI, 200, .inl (upd fA k.toNatClampNeg r_1.toInt32))), (mB, .inl (cL, 200, .inr (.inl (vp_updL fB k.toNatClampNeg (r_35 ||| 0))))), (mW, .inl (cZ, 200, .inl (upd (upd fW k.toNatClampNeg (vp_nar .boolean 0)) k.toNatClampNeg (vp_nar .boolean 0))))]) (va_runV (As := [.int 10]) (rest := []) ⟨hx, hb, hml, hown, hts⟩ (q_expect l D cI cL cB cZ cT _ m0 mH mI mJ mS mD mX mA mB mW mL aM aC mM mQ oV pL lI sW dP sT aT cH iW iH aE mN sZ tS (u_r_35.1) (u_r_35.2) lS fX 10 10 (by decide) (by omega) (by omega)) (cwV 1 hts gX8_readLine_X8_expect rfl rfl rfl (by decide +kernel) ⟨Nat.le_of_ble_eq_true rfl, Nat.le_of_ble_eq_true rfl⟩) (kPreV hG hP hD [3, 4] rfl (by decide) 0 8 rfl rfl rfl) rfl rfl hl.1 rfl (lv_room (Nat.le_of_ble_eq_true rfl)) dX8_readLine_276 ⟨Nat.le_of_ble_eq_true rfl, Nat.le_of_ble_eq_true rfl⟩) hA hP hD hS [3, 4] [0, 1, 2] rfl rfl (by decide) (by decide) (fun _ u_r_37 H locs wr_37 hP hD hS => ?_)
                  have hP : va_P D vwCl [(mA, .inl (cI, 200, .inl (upd fA k.toNatClampNeg r_1.toInt32))), (mB, .inl (cL, 200, .inr (.inl (vp_updL fB k.toNatClampNeg (r_35 ||| 0))))), (mW, .inl (cZ, 200, .inl (upd (upd fW k.toNatClampNeg (vp_nar .boolean 0)) k.toNatClampNeg (vp_nar .boolean 0)))), (m0, .inr (8, [.ref mH, .int aM, .long aC, .int mM, .long mQ, .int oV, .int pL, .int lI, .int sW, .int dP, .int sT, .long aT, .int cH, .int iW, .ref mI, .ref mJ, .ref mS, .ref mD, .int iH, .int aE, .int mN, .long sZ, .ref mX, .int tS, .int u_r_37.1, .int u_r_37.2, .ref mA, .ref mB, .ref mW, .ref mL, .int lS])), (mX, .inl (cB, 2000, .inl fX))] H := hP
                  have hD : va_D A [(mA, .inl (cI, 200, .inl (upd fA k.toNatClampNeg r_1.toInt32))), (mB, .inl (cL, 200, .inr (.inl (vp_updL fB k.toNatClampNeg (r_35 ||| 0))))), (mW, .inl (cZ, 200, .inl (upd (upd fW k.toNatClampNeg (vp_nar .boolean 0)) k.toNatClampNeg (vp_nar .boolean 0)))), (m0, .inr (8, [.ref mH, .int aM, .long aC, .int mM, .long mQ, .int oV, .int pL, .int lI, .int sW, .int dP, .int sT, .long aT, .int cH, .int iW, .ref mI, .ref mJ, .ref mS, .ref mD, .int iH, .int aE, .int mN, .long sZ, .ref mX, .int tS, .int u_r_37.1, .int u_r_37.2, .ref mA, .ref mB, .ref mW, .ref mL, .int lS])), (mX, .inl (cB, 2000, .inl fX))] := hD
                  try dsimp only at wr_37
                  try simp only [Int32.reduceToInt, Int64.reduceToInt] at wr_37
                  obtain ⟨wr_37_0, wr_37_1⟩ := wr_37
                  have rgr_37 : (u_r_35.1).toInt ≤ (u_r_37.1).toInt ∧ (u_r_37.1).toInt ≤ tS.toInt := by
                    by_cases h7 : (u_r_35.2).toInt < 0
                    · rw [(wr_37_0 h7).1]; exact kSk_r (by omega) hts2 (by decide)
                    · rw [(wr_37_1 h7).1]; omega
                  have wnr_37 : 0 ≤ (u_r_37.2).toInt ∨ (u_r_37.2).toInt = -1 := by
                    by_cases h7 : (u_r_35.2).toInt < 0
                    · exact kif_w (wr_37_0 h7).2 (by omega) (by omega)
                    · rw [(wr_37_1 h7).2]; omega
                  refine kVret (u := (u_r_37.1, u_r_37.2, (upd fA k.toNatClampNeg r_1.toInt32), (vp_updL fB k.toNatClampNeg (r_35 ||| 0)), (upd (upd fW k.toNatClampNeg (vp_nar .boolean 0)) k.toNatClampNeg (vp_nar .boolean 0)))) hx hb hr hlocks hS dX8_readLine_279 ?_ (hP.sub [3, 4, 0, 1, 2] rfl) (hD.sub [3, 4, 0, 1, 2] (by decide) rfl)
                  try dsimp only
                  have FR := kFr_r (f := fX) hta hts2 htw wr_1_0 wr_1_1 wr_1_2 wr_2_0 wr_2_1
                  have F2 := FR.resolve_left (fun h => absurd h.1 (by omega))
                  obtain ⟨F3, F4, F5⟩ := F2
                  rw [F4]
                  rw [kLb_e (by omega) (by rw [← ex_25]; omega), ← ex_25, show x_25 = x_29 from k_inj (by omega)]
                  refine ⟨kTl_y (f := fX) (by omega) hts2 F3 wr_31_1 wr_31_2 (by omega) wr_35_1 wr_35_2 wr_37_0 wr_37_1, by omega, fun j hj => ⟨?_, ?_⟩, ?_, ?_⟩
                  · first | exact pk_un hj | exact (pk_un hj).trans (pk_un hj) | rfl
                  · first | rfl | exact pk_un hj | exact (pk_un hj).trans (pk_un hj)
                  · by_cases hz : 0 ≤ (u_r_37.2).toInt
                    · exact Or.inl hz
                    · right
                      have hx8 := k_l2i (v := r_1) (by omega)
                      refine ⟨by rw [pk_us]; omega, ?_⟩
                      first | exact Or.inl (pk_us.trans rfl) | exact (Or.inl (pk_us.trans rfl))
                  · omega
                · have t_171_35 := c_171_35
                  try simp only [kb_eq0, kb_ne0, lg_cmp_lt, lg_cmp_le, lg_cmp_gt, lg_cmp_ge, lg_cmp_eq] at t_171_35
                  try simp only [Int32.lt_iff_toInt_lt, Int32.le_iff_toInt_le, ← Int32.toInt_inj, Int64.lt_iff_toInt_lt, Int64.le_iff_toInt_le, ← Int64.toInt_inj, Int32.toInt_toInt64, Int32.reduceToInt, Int64.reduceToInt] at t_171_35
                  refine lv_iload_n hx hb dX8_readLine_174 rfl (lv_at hl 2 rfl) ?_
                  refine lv_if_eq (tgt := 184) hx hb dX8_readLine_175 (by decide) (fun c_175_37 => ?_) (fun c_175_37 => ?_)
                  · have t_175_37 := c_175_37
                    try simp only [kb_eq0, kb_ne0, lg_cmp_lt, lg_cmp_le, lg_cmp_gt, lg_cmp_ge, lg_cmp_eq] at t_175_37
                    try simp only [Int32.lt_iff_toInt_lt, Int32.le_iff_toInt_le, ← Int32.toInt_inj, Int64.lt_iff_toInt_lt, Int64.le_iff_toInt_le, ← Int64.toInt_inj, Int32.toInt_toInt64, Int32.reduceToInt, Int64.reduceToInt] at t_175_37
                    refine lv_ldc2 (v := 131072) hx hb hown (hts (.constantLong RX8 276 (131072)) (List.mem_of_getElem? (i := 7) rfl)) dX8_readLine_184 ?_
                    refine lv_goto (tgt := 191) hx hb dX8_readLine_187 (by decide) ?_
                    refine lv_lor hx hb dX8_readLine_191 ?_
                    refine va_last hx hb hK hP hD hS 1 1 rfl rfl (vp_in_iff.mpr (by omega)) dX8_readLine_192 (fun H locs hP hD hS => ?_)
                    have hP : va_P D vwCl [(mA, .inl (cI, 200, .inl (upd fA k.toNatClampNeg r_1.toInt32))), (mB, .inl (cL, 200, .inr (.inl (vp_updL fB k.toNatClampNeg (r_35 ||| 131072))))), (mW, .inl (cZ, 200, .inl (upd (upd fW k.toNatClampNeg (vp_nar .boolean 0)) k.toNatClampNeg (vp_nar .boolean 0)))), (m0, .inr (8, [.ref mH, .int aM, .long aC, .int mM, .long mQ, .int oV, .int pL, .int lI, .int sW, .int dP, .int sT, .long aT, .int cH, .int iW, .ref mI, .ref mJ, .ref mS, .ref mD, .int iH, .int aE, .int mN, .long sZ, .ref mX, .int tS, .int u_r_35.1, .int u_r_35.2, .ref mA, .ref mB, .ref mW, .ref mL, .int lS])), (mX, .inl (cB, 2000, .inl fX))] H := hP
                    have hD : va_D A [(mA, .inl (cI, 200, .inl (upd fA k.toNatClampNeg r_1.toInt32))), (mB, .inl (cL, 200, .inr (.inl (vp_updL fB k.toNatClampNeg (r_35 ||| 131072))))), (mW, .inl (cZ, 200, .inl (upd (upd fW k.toNatClampNeg (vp_nar .boolean 0)) k.toNatClampNeg (vp_nar .boolean 0)))), (m0, .inr (8, [.ref mH, .int aM, .long aC, .int mM, .long mQ, .int oV, .int pL, .int lI, .int sW, .int dP, .int sT, .long aT, .int cH, .int iW, .ref mI, .ref mJ, .ref mS, .ref mD, .int iH, .int aE, .int mN, .long sZ, .ref mX, .int tS, .int u_r_35.1, .int u_r_35.2, .ref mA, .ref mB, .ref mW, .ref mL, .int lS])), (mX, .inl (cB, 2000, .inl fX))] := hD
                    refine lv_goto (tgt := 273) hx hb dX8_readLine_193 (by decide) ?_
                    refine lv_aload_n hx hb dX8_readLine_273 rfl (lv_at hl 4 rfl) ?_
                    refine lv_bipush (v := 10) hx hb dX8_readLine_274 (by decide) ?_
                    refine kCallVd (wr := [(mA, .inl (cI, 200, .inl (upd fA k.toNatClampNeg r_1.toInt32))), (mB, .inl (cL, 200, .inr (.inl (vp_updL fB k.toNatClampNeg (r_35 ||| 131072))))), (mW, .inl (cZ, 200, .inl (upd (upd fW k.toNatClampNeg (vp_nar .boolean 0)) k.toNatClampNeg (vp_nar .boolean 0))))]) (va_runV (As := [.int 10]) (rest := []) ⟨hx, hb, hml, hown, hts⟩ (q_expect l D cI cL cB cZ cT _ m0 mH mI mJ mS mD mX mA mB mW mL aM aC mM mQ oV pL lI sW dP sT aT cH iW iH aE mN sZ tS (u_r_35.1) (u_r_35.2) lS fX 10 10 (by decide) (by omega) (by omega)) (cwV 1 hts gX8_readLine_X8_expect rfl rfl rfl (by decide +kernel) ⟨Nat.le_of_ble_eq_true rfl, Nat.le_of_ble_eq_true rfl⟩) (kPreV hG hP hD [3, 4] rfl (by decide) 0 8 rfl rfl rfl) rfl rfl hl.1 rfl (lv_room (Nat.le_of_ble_eq_true rfl)) dX8_readLine_276 ⟨Nat.le_of_ble_eq_true rfl, Nat.le_of_ble_eq_true rfl⟩) hA hP hD hS [3, 4] [0, 1, 2] rfl rfl (by decide) (by decide) (fun _ u_r_39 H locs wr_39 hP hD hS => ?_)
                    have hP : va_P D vwCl [(mA, .inl (cI, 200, .inl (upd fA k.toNatClampNeg r_1.toInt32))), (mB, .inl (cL, 200, .inr (.inl (vp_updL fB k.toNatClampNeg (r_35 ||| 131072))))), (mW, .inl (cZ, 200, .inl (upd (upd fW k.toNatClampNeg (vp_nar .boolean 0)) k.toNatClampNeg (vp_nar .boolean 0)))), (m0, .inr (8, [.ref mH, .int aM, .long aC, .int mM, .long mQ, .int oV, .int pL, .int lI, .int sW, .int dP, .int sT, .long aT, .int cH, .int iW, .ref mI, .ref mJ, .ref mS, .ref mD, .int iH, .int aE, .int mN, .long sZ, .ref mX, .int tS, .int u_r_39.1, .int u_r_39.2, .ref mA, .ref mB, .ref mW, .ref mL, .int lS])), (mX, .inl (cB, 2000, .inl fX))] H := hP
                    have hD : va_D A [(mA, .inl (cI, 200, .inl (upd fA k.toNatClampNeg r_1.toInt32))), (mB, .inl (cL, 200, .inr (.inl (vp_updL fB k.toNatClampNeg (r_35 ||| 131072))))), (mW, .inl (cZ, 200, .inl (upd (upd fW k.toNatClampNeg (vp_nar .boolean 0)) k.toNatClampNeg (vp_nar .boolean 0)))), (m0, .inr (8, [.ref mH, .int aM, .long aC, .int mM, .long mQ, .int oV, .int pL, .int lI, .int sW, .int dP, .int sT, .long aT, .int cH, .int iW, .ref mI, .ref mJ, .ref mS, .ref mD, .int iH, .int aE, .int mN, .long sZ, .ref mX, .int tS, .int u_r_39.1, .int u_r_39.2, .ref mA, .ref mB, .ref mW, .ref mL, .int lS])), (mX, .inl (cB, 2000, .inl fX))] := hD
                    try dsimp only at wr_39
                    try simp only [Int32.reduceToInt, Int64.reduceToInt] at wr_39
                    obtain ⟨wr_39_0, wr_39_1⟩ := wr_39
                    have rgr_39 : (u_r_35.1).toInt ≤ (u_r_39.1).toInt ∧ (u_r_39.1).toInt ≤ tS.toInt := by
                      by_cases h7 : (u_r_35.2).toInt < 0
                      · rw [(wr_39_0 h7).1]; exact kSk_r (by omega) hts2 (by decide)
                      · rw [(wr_39_1 h7).1]; omega
                    have wnr_39 : 0 ≤ (u_r_39.2).toInt ∨ (u_r_39.2).toInt = -1 := by
                      by_cases h7 : (u_r_35.2).toInt < 0
                      · exact kif_w (wr_39_0 h7).2 (by omega) (by omega)
                      · rw [(wr_39_1 h7).2]; omega
                    refine kVret (u := (u_r_39.1, u_r_39.2, (upd fA k.toNatClampNeg r_1.toInt32), (vp_updL fB k.toNatClampNeg (r_35 ||| 131072)), (upd (upd fW k.toNatClampNeg (vp_nar .boolean 0)) k.toNatClampNeg (vp_nar .boolean 0)))) hx hb hr hlocks hS dX8_readLine_279 ?_ (hP.sub [3, 4, 0, 1, 2] rfl) (hD.sub [3, 4, 0, 1, 2] (by decide) rfl)
                    try dsimp only
                    have FR := kFr_r (f := fX) hta hts2 htw wr_1_0 wr_1_1 wr_1_2 wr_2_0 wr_2_1
                    have F2 := FR.resolve_left (fun h => absurd h.1 (by omega))
                    obtain ⟨F3, F4, F5⟩ := F2
                    rw [F4]
                    rw [kLb_e (by omega) (by rw [← ex_25]; omega), ← ex_25, show x_25 = x_29 from k_inj (by omega)]
                    refine ⟨kTl_y (f := fX) (by omega) hts2 F3 wr_31_1 wr_31_2 (by omega) wr_35_1 wr_35_2 wr_39_0 wr_39_1, by omega, fun j hj => ⟨?_, ?_⟩, ?_, ?_⟩
                    · first | exact pk_un hj | exact (pk_un hj).trans (pk_un hj) | rfl
                    · first | rfl | exact pk_un hj | exact (pk_un hj).trans (pk_un hj)
                    · by_cases hz : 0 ≤ (u_r_39.2).toInt
                      · exact Or.inl hz
                      · right
                        have hx8 := k_l2i (v := r_1) (by omega)
                        refine ⟨by rw [pk_us]; omega, ?_⟩
                        first | exact Or.inl (pk_us.trans rfl) | exact (Or.inl (pk_us.trans rfl))
                    · omega
                  · exact absurd (by decide) c_175_37
              · exact absurd (by decide) c_136_33
          · exact absurd (by decide) c_101_29
        · exact absurd (by decide) c_81_27
      · have t_66_26 := c_66_26
        try simp only [kb_eq0, kb_ne0, lg_cmp_lt, lg_cmp_le, lg_cmp_gt, lg_cmp_ge, lg_cmp_eq] at t_66_26
        try simp only [Int32.lt_iff_toInt_lt, Int32.le_iff_toInt_le, ← Int32.toInt_inj, Int64.lt_iff_toInt_lt, Int64.le_iff_toInt_le, ← Int64.toInt_inj, Int32.toInt_toInt64, Int32.reduceToInt, Int64.reduceToInt] at t_66_26
        refine lv_iconst (v := 1) hx hb dX8_readLine_69 (by decide) ?_
        refine lv_goto (tgt := 74) hx hb dX8_readLine_70 (by decide) ?_
        refine lv_istore_n (lv' := [(3, .int 1), (2, .int tA), (0, .ref m0), (1, .int k)]) hx hb dX8_readLine_74 rfl hl (by decide) rfl (fun ls hl => ?_)
        refine lv_aload_n hx hb dX8_readLine_75 rfl (lv_at hl 2 rfl) ?_
        refine lv_dup hx hb dX8_readLine_76 rfl ?_
        refine va_get (D := D) (ci := 8) (v := .int x_25) (C := RX8) (T := TX8) (N := 31) hx hb hts iX8_readLine_X8 hown hK hP 3 rfl rfl 24 (by decide) (hts (.fieldLink RX8 246 "TapeCalculatorModel" "at" "I") (List.mem_of_getElem? (i := 1) rfl)) (fun _ h9 => h9) rfl dX8_readLine_77 ?_
        refine lv_iload_n hx hb dX8_readLine_80 rfl (lv_at hl 0 rfl) ?_
        refine lv_if_eq (tgt := 88) hx hb dX8_readLine_81 (by decide) (fun c_81_39 => ?_) (fun c_81_39 => ?_)
        · exact absurd c_81_39 (by decide)
        · have t_81_39 := c_81_39
          try simp only [kb_eq0, kb_ne0, lg_cmp_lt, lg_cmp_le, lg_cmp_gt, lg_cmp_ge, lg_cmp_eq] at t_81_39
          try simp only [Int32.lt_iff_toInt_lt, Int32.le_iff_toInt_le, ← Int32.toInt_inj, Int64.lt_iff_toInt_lt, Int64.le_iff_toInt_le, ← Int64.toInt_inj, Int32.toInt_toInt64, Int32.reduceToInt, Int64.reduceToInt] at t_81_39
          refine lv_iconst (v := 1) hx hb dX8_readLine_84 (by decide) ?_
          refine lv_goto (tgt := 89) hx hb dX8_readLine_85 (by decide) ?_
          refine lv_iadd hx hb dX8_readLine_89 ?_
          refine lv_topi (fun x_41 ex_41 => ?_)
          refine va_put (D := D) (ci := 8) (v := .int x_41) (ty := .int) (C := RX8) (T := TX8) (N := 31) hx hb hts iX8_readLine_X8 tyX8 tyX8_ok nmX8 hown hK hP hD hS 3 rfl rfl 24 (by decide) (hts (.fieldLink RX8 246 "TapeCalculatorModel" "at" "I") (List.mem_of_getElem? (i := 1) rfl)) (fun _ h9 => h9) rfl (by decide +kernel) rfl rfl (Nat.le_of_ble_eq_true rfl) dX8_readLine_90 (fun H locs hP hD hS => ?_)
          have hP : va_P D vwCl [(mA, .inl (cI, 200, .inl (upd fA k.toNatClampNeg r_1.toInt32))), (mB, .inl (cL, 200, .inr (.inl fB))), (mW, .inl (cZ, 200, .inl (upd fW k.toNatClampNeg (vp_nar .boolean 0)))), (m0, .inr (8, [.ref mH, .int aM, .long aC, .int mM, .long mQ, .int oV, .int pL, .int lI, .int sW, .int dP, .int sT, .long aT, .int cH, .int iW, .ref mI, .ref mJ, .ref mS, .ref mD, .int iH, .int aE, .int mN, .long sZ, .ref mX, .int tS, .int x_41, .int u_r_2.2, .ref mA, .ref mB, .ref mW, .ref mL, .int lS])), (mX, .inl (cB, 2000, .inl fX))] H := hP
          have hD : va_D A [(mA, .inl (cI, 200, .inl (upd fA k.toNatClampNeg r_1.toInt32))), (mB, .inl (cL, 200, .inr (.inl fB))), (mW, .inl (cZ, 200, .inl (upd fW k.toNatClampNeg (vp_nar .boolean 0)))), (m0, .inr (8, [.ref mH, .int aM, .long aC, .int mM, .long mQ, .int oV, .int pL, .int lI, .int sW, .int dP, .int sT, .long aT, .int cH, .int iW, .ref mI, .ref mJ, .ref mS, .ref mD, .int iH, .int aE, .int mN, .long sZ, .ref mX, .int tS, .int x_41, .int u_r_2.2, .ref mA, .ref mB, .ref mW, .ref mL, .int lS])), (mX, .inl (cB, 2000, .inl fX))] := hD
          have hcx_41 := kHere_c (a := x_25) (t := tS) (f := fX) (by omega)
          have hdx_41 := k_addg (a := x_25) (b := 1) (by omega) (by decide)
          simp only [Int32.reduceToInt] at hdx_41
          rw [← ex_41] at hdx_41
          refine lv_aload_n hx hb dX8_readLine_93 rfl (lv_at hl 2 rfl) ?_
          refine va_get (D := D) (ci := 8) (v := .ref mW) (C := RX8) (T := TX8) (N := 31) hx hb hts iX8_readLine_X8 hown hK hP 3 rfl rfl 28 (by decide) (hts (.fieldLink RX8 36 "TapeCalculatorModel" "lineWhole" "[Z") (List.mem_of_getElem? (i := 5) rfl)) (fun _ h9 => h9) rfl dX8_readLine_94 ?_
          refine lv_iload_n hx hb dX8_readLine_97 rfl (lv_at hl 3 rfl) ?_
          refine lv_iload_n hx hb dX8_readLine_98 rfl (lv_at hl 0 rfl) ?_
          refine va_zast hx hb hK hP hD hS 2 3 rfl rfl (vp_in_iff.mpr (by omega)) dX8_readLine_99 (fun H locs hP hD hS => ?_)
          have hP : va_P D vwCl [(mA, .inl (cI, 200, .inl (upd fA k.toNatClampNeg r_1.toInt32))), (mB, .inl (cL, 200, .inr (.inl fB))), (mW, .inl (cZ, 200, .inl (upd (upd fW k.toNatClampNeg (vp_nar .boolean 0)) k.toNatClampNeg (vp_nar .boolean 1)))), (m0, .inr (8, [.ref mH, .int aM, .long aC, .int mM, .long mQ, .int oV, .int pL, .int lI, .int sW, .int dP, .int sT, .long aT, .int cH, .int iW, .ref mI, .ref mJ, .ref mS, .ref mD, .int iH, .int aE, .int mN, .long sZ, .ref mX, .int tS, .int x_41, .int u_r_2.2, .ref mA, .ref mB, .ref mW, .ref mL, .int lS])), (mX, .inl (cB, 2000, .inl fX))] H := hP
          have hD : va_D A [(mA, .inl (cI, 200, .inl (upd fA k.toNatClampNeg r_1.toInt32))), (mB, .inl (cL, 200, .inr (.inl fB))), (mW, .inl (cZ, 200, .inl (upd (upd fW k.toNatClampNeg (vp_nar .boolean 0)) k.toNatClampNeg (vp_nar .boolean 1)))), (m0, .inr (8, [.ref mH, .int aM, .long aC, .int mM, .long mQ, .int oV, .int pL, .int lI, .int sW, .int dP, .int sT, .long aT, .int cH, .int iW, .ref mI, .ref mJ, .ref mS, .ref mD, .int iH, .int aE, .int mN, .long sZ, .ref mX, .int tS, .int x_41, .int u_r_2.2, .ref mA, .ref mB, .ref mW, .ref mL, .int lS])), (mX, .inl (cB, 2000, .inl fX))] := hD
          refine lv_iload_n hx hb dX8_readLine_100 rfl (lv_at hl 0 rfl) ?_
          refine lv_if_eq (tgt := 122) hx hb dX8_readLine_101 (by decide) (fun c_101_41 => ?_) (fun c_101_41 => ?_)
          · exact absurd c_101_41 (by decide)
          · have t_101_41 := c_101_41
            try simp only [kb_eq0, kb_ne0, lg_cmp_lt, lg_cmp_le, lg_cmp_gt, lg_cmp_ge, lg_cmp_eq] at t_101_41
            try simp only [Int32.lt_iff_toInt_lt, Int32.le_iff_toInt_le, ← Int32.toInt_inj, Int64.lt_iff_toInt_lt, Int64.le_iff_toInt_le, ← Int64.toInt_inj, Int32.toInt_toInt64, Int32.reduceToInt, Int64.reduceToInt] at t_101_41
            refine lv_aload_n hx hb dX8_readLine_104 rfl (lv_at hl 2 rfl) ?_
            refine va_get (D := D) (ci := 8) (v := .ref mA) (C := RX8) (T := TX8) (N := 31) hx hb hts iX8_readLine_X8 hown hK hP 3 rfl rfl 26 (by decide) (hts (.fieldLink RX8 30 "TapeCalculatorModel" "lineAt" "[I") (List.mem_of_getElem? (i := 2) rfl)) (fun _ h9 => h9) rfl dX8_readLine_105 ?_
            refine lv_iload_n hx hb dX8_readLine_108 rfl (lv_at hl 3 rfl) ?_
            refine va_iald hx hb hK hP 0 0 rfl rfl (vp_in_iff.mpr (by omega)) dX8_readLine_109 ?_
            refine lv_iconst (v := 2) hx hb dX8_readLine_110 (by decide) ?_
            refine lv_irem hx hb dX8_readLine_111 (by decide) ?_
            refine lv_iconst (v := 1) hx hb dX8_readLine_112 (by decide) ?_
            refine lv_icmp_ne (tgt := 122) hx hb dX8_readLine_113 (by decide) (fun c_113_42 => ?_) (fun c_113_42 => ?_)
            · have t_113_42 := c_113_42
              try simp only [kb_eq0, kb_ne0, lg_cmp_lt, lg_cmp_le, lg_cmp_gt, lg_cmp_ge, lg_cmp_eq] at t_113_42
              try simp only [Int32.lt_iff_toInt_lt, Int32.le_iff_toInt_le, ← Int32.toInt_inj, Int64.lt_iff_toInt_lt, Int64.le_iff_toInt_le, ← Int64.toInt_inj, Int32.toInt_toInt64, Int32.reduceToInt, Int64.reduceToInt] at t_113_42
              refine lv_aload_n hx hb dX8_readLine_122 rfl (lv_at hl 2 rfl) ?_
              refine kCallI (wr := [(mA, .inl (cI, 200, .inl (upd fA k.toNatClampNeg r_1.toInt32))), (mB, .inl (cL, 200, .inr (.inl fB))), (mW, .inl (cZ, 200, .inl (upd (upd fW k.toNatClampNeg (vp_nar .boolean 0)) k.toNatClampNeg (vp_nar .boolean 1))))]) (va_runV (As := []) (rest := []) ⟨hx, hb, hml, hown, hts⟩ (q_sign l D cI cL cB cZ cT _ m0 mH mI mJ mS mD mX mA mB mW mL aM aC mM mQ oV pL lI sW dP sT aT cH iW iH aE mN sZ tS x_41 (u_r_2.2) lS fX (by omega) (by omega)) (cwV 0 hts gX8_readLine_X8_sign rfl rfl rfl (by decide +kernel) ⟨Nat.le_of_ble_eq_true rfl, Nat.le_of_ble_eq_true rfl⟩) (kPreV hG hP hD [3, 4] rfl (by decide) 0 8 rfl rfl rfl) rfl rfl hl.1 rfl (lv_room (Nat.le_of_ble_eq_true rfl)) dX8_readLine_123 ⟨Nat.le_of_ble_eq_true rfl, Nat.le_of_ble_eq_true rfl⟩) hA hP hD hS [3, 4] [0, 1, 2] rfl rfl (by decide) (by decide) (fun r_44 u_r_44 H locs wr_44 hP hD hS => ?_)
              have hP : va_P D vwCl [(mA, .inl (cI, 200, .inl (upd fA k.toNatClampNeg r_1.toInt32))), (mB, .inl (cL, 200, .inr (.inl fB))), (mW, .inl (cZ, 200, .inl (upd (upd fW k.toNatClampNeg (vp_nar .boolean 0)) k.toNatClampNeg (vp_nar .boolean 1)))), (m0, .inr (8, [.ref mH, .int aM, .long aC, .int mM, .long mQ, .int oV, .int pL, .int lI, .int sW, .int dP, .int sT, .long aT, .int cH, .int iW, .ref mI, .ref mJ, .ref mS, .ref mD, .int iH, .int aE, .int mN, .long sZ, .ref mX, .int tS, .int u_r_44.1, .int u_r_44.2, .ref mA, .ref mB, .ref mW, .ref mL, .int lS])), (mX, .inl (cB, 2000, .inl fX))] H := hP
              have hD : va_D A [(mA, .inl (cI, 200, .inl (upd fA k.toNatClampNeg r_1.toInt32))), (mB, .inl (cL, 200, .inr (.inl fB))), (mW, .inl (cZ, 200, .inl (upd (upd fW k.toNatClampNeg (vp_nar .boolean 0)) k.toNatClampNeg (vp_nar .boolean 1)))), (m0, .inr (8, [.ref mH, .int aM, .long aC, .int mM, .long mQ, .int oV, .int pL, .int lI, .int sW, .int dP, .int sT, .long aT, .int cH, .int iW, .ref mI, .ref mJ, .ref mS, .ref mD, .int iH, .int aE, .int mN, .long sZ, .ref mX, .int tS, .int u_r_44.1, .int u_r_44.2, .ref mA, .ref mB, .ref mW, .ref mL, .int lS])), (mX, .inl (cB, 2000, .inl fX))] := hD
              try dsimp only at wr_44
              try simp only [Int32.reduceToInt, Int64.reduceToInt] at wr_44
              obtain ⟨wr_44_0, wr_44_1, wr_44_2⟩ := wr_44
              have rgr_44 := kSg_r (a := x_41) (t := tS) (f := fX) (by omega) hts2
              rw [← wr_44_1] at rgr_44
              have wnr_44 := kif_w wr_44_2 (by omega) (by omega)
              refine lv_istore (lv' := [(4, .int r_44), (3, .int 1), (2, .int tA), (0, .ref m0), (1, .int k)]) hx hb dX8_readLine_126 hl (by decide) rfl (fun ls hl => ?_)
              refine lv_aload_n hx hb dX8_readLine_128 rfl (lv_at hl 3 rfl) ?_
              refine va_get (D := D) (ci := 8) (v := .int u_r_44.2) (C := RX8) (T := TX8) (N := 31) hx hb hts iX8_readLine_X8 hown hK hP 3 rfl rfl 25 (by decide) (hts (.fieldLink RX8 259 "TapeCalculatorModel" "wrong" "I") (List.mem_of_getElem? (i := 4) rfl)) (fun _ h9 => h9) rfl dX8_readLine_129 ?_
              refine lv_if_ge (tgt := 193) hx hb dX8_readLine_132 (by decide) (fun c_132_44 => ?_) (fun c_132_44 => ?_)
              · have t_132_44 := c_132_44
                try simp only [kb_eq0, kb_ne0, lg_cmp_lt, lg_cmp_le, lg_cmp_gt, lg_cmp_ge, lg_cmp_eq] at t_132_44
                try simp only [Int32.lt_iff_toInt_lt, Int32.le_iff_toInt_le, ← Int32.toInt_inj, Int64.lt_iff_toInt_lt, Int64.le_iff_toInt_le, ← Int64.toInt_inj, Int32.toInt_toInt64, Int32.reduceToInt, Int64.reduceToInt] at t_132_44
                refine lv_goto (tgt := 273) hx hb dX8_readLine_193 (by decide) ?_
                refine lv_aload_n hx hb dX8_readLine_273 rfl (lv_at hl 3 rfl) ?_
                refine lv_bipush (v := 10) hx hb dX8_readLine_274 (by decide) ?_
                refine kCallVd (wr := [(mA, .inl (cI, 200, .inl (upd fA k.toNatClampNeg r_1.toInt32))), (mB, .inl (cL, 200, .inr (.inl fB))), (mW, .inl (cZ, 200, .inl (upd (upd fW k.toNatClampNeg (vp_nar .boolean 0)) k.toNatClampNeg (vp_nar .boolean 1))))]) (va_runV (As := [.int 10]) (rest := []) ⟨hx, hb, hml, hown, hts⟩ (q_expect l D cI cL cB cZ cT _ m0 mH mI mJ mS mD mX mA mB mW mL aM aC mM mQ oV pL lI sW dP sT aT cH iW iH aE mN sZ tS (u_r_44.1) (u_r_44.2) lS fX 10 10 (by decide) (by omega) (by omega)) (cwV 1 hts gX8_readLine_X8_expect rfl rfl rfl (by decide +kernel) ⟨Nat.le_of_ble_eq_true rfl, Nat.le_of_ble_eq_true rfl⟩) (kPreV hG hP hD [3, 4] rfl (by decide) 0 8 rfl rfl rfl) rfl rfl hl.1 rfl (lv_room (Nat.le_of_ble_eq_true rfl)) dX8_readLine_276 ⟨Nat.le_of_ble_eq_true rfl, Nat.le_of_ble_eq_true rfl⟩) hA hP hD hS [3, 4] [0, 1, 2] rfl rfl (by decide) (by decide) (fun _ u_r_46 H locs wr_46 hP hD hS => ?_)
                have hP : va_P D vwCl [(mA, .inl (cI, 200, .inl (upd fA k.toNatClampNeg r_1.toInt32))), (mB, .inl (cL, 200, .inr (.inl fB))), (mW, .inl (cZ, 200, .inl (upd (upd fW k.toNatClampNeg (vp_nar .boolean 0)) k.toNatClampNeg (vp_nar .boolean 1)))), (m0, .inr (8, [.ref mH, .int aM, .long aC, .int mM, .long mQ, .int oV, .int pL, .int lI, .int sW, .int dP, .int sT, .long aT, .int cH, .int iW, .ref mI, .ref mJ, .ref mS, .ref mD, .int iH, .int aE, .int mN, .long sZ, .ref mX, .int tS, .int u_r_46.1, .int u_r_46.2, .ref mA, .ref mB, .ref mW, .ref mL, .int lS])), (mX, .inl (cB, 2000, .inl fX))] H := hP
                have hD : va_D A [(mA, .inl (cI, 200, .inl (upd fA k.toNatClampNeg r_1.toInt32))), (mB, .inl (cL, 200, .inr (.inl fB))), (mW, .inl (cZ, 200, .inl (upd (upd fW k.toNatClampNeg (vp_nar .boolean 0)) k.toNatClampNeg (vp_nar .boolean 1)))), (m0, .inr (8, [.ref mH, .int aM, .long aC, .int mM, .long mQ, .int oV, .int pL, .int lI, .int sW, .int dP, .int sT, .long aT, .int cH, .int iW, .ref mI, .ref mJ, .ref mS, .ref mD, .int iH, .int aE, .int mN, .long sZ, .ref mX, .int tS, .int u_r_46.1, .int u_r_46.2, .ref mA, .ref mB, .ref mW, .ref mL, .int lS])), (mX, .inl (cB, 2000, .inl fX))] := hD
                try dsimp only at wr_46
                try simp only [Int32.reduceToInt, Int64.reduceToInt] at wr_46
                obtain ⟨wr_46_0, wr_46_1⟩ := wr_46
                have rgr_46 : (u_r_44.1).toInt ≤ (u_r_46.1).toInt ∧ (u_r_46.1).toInt ≤ tS.toInt := by
                  by_cases h7 : (u_r_44.2).toInt < 0
                  · rw [(wr_46_0 h7).1]; exact kSk_r (by omega) hts2 (by decide)
                  · rw [(wr_46_1 h7).1]; omega
                have wnr_46 : 0 ≤ (u_r_46.2).toInt ∨ (u_r_46.2).toInt = -1 := by
                  by_cases h7 : (u_r_44.2).toInt < 0
                  · exact kif_w (wr_46_0 h7).2 (by omega) (by omega)
                  · rw [(wr_46_1 h7).2]; omega
                refine kVret (u := (u_r_46.1, u_r_46.2, (upd fA k.toNatClampNeg r_1.toInt32), fB, (upd (upd fW k.toNatClampNeg (vp_nar .boolean 0)) k.toNatClampNeg (vp_nar .boolean 1)))) hx hb hr hlocks hS dX8_readLine_279 ?_ (hP.sub [3, 4, 0, 1, 2] rfl) (hD.sub [3, 4, 0, 1, 2] (by decide) rfl)
                try dsimp only
                have FR := kFr_r (f := fX) hta hts2 htw wr_1_0 wr_1_1 wr_1_2 wr_2_0 wr_2_1
                have F2 := FR.resolve_left (fun h => absurd h.1 (by omega))
                obtain ⟨F3, F4, F5⟩ := F2
                rw [F4]
                have ho := k_oddR (v := r_1) F5
                have t9 := t_113_42
                rw [pk_us] at t9
                rw [kLb_w (by omega) (by rw [← ex_25]; omega) (by omega), ← ex_25, ← ex_41]
                refine ⟨kTl_x (f := fX) (by omega) F3 wr_44_2 (by omega) (wr_46_1 (by omega)).2, by omega, fun j hj => ⟨?_, ?_⟩, ?_, ?_⟩
                · first | exact pk_un hj | exact (pk_un hj).trans (pk_un hj) | rfl
                · first | rfl | exact pk_un hj | exact (pk_un hj).trans (pk_un hj)
                · by_cases hz : 0 ≤ (u_r_46.2).toInt
                  · exact Or.inl hz
                  · right
                    have hx8 := k_l2i (v := r_1) (by omega)
                    refine ⟨by rw [pk_us]; omega, ?_⟩
                    first | exact Or.inl (pk_us.trans rfl) | exact (Or.inr ((k_even (by rw [pk_us]; omega)).2.2 t_113_42))
                · omega
              · have t_132_44 := c_132_44
                try simp only [kb_eq0, kb_ne0, lg_cmp_lt, lg_cmp_le, lg_cmp_gt, lg_cmp_ge, lg_cmp_eq] at t_132_44
                try simp only [Int32.lt_iff_toInt_lt, Int32.le_iff_toInt_le, ← Int32.toInt_inj, Int64.lt_iff_toInt_lt, Int64.le_iff_toInt_le, ← Int64.toInt_inj, Int32.toInt_toInt64, Int32.reduceToInt, Int64.reduceToInt] at t_132_44
                refine lv_iload_n hx hb dX8_readLine_135 rfl (lv_at hl 1 rfl) ?_
                refine lv_if_eq (tgt := 151) hx hb dX8_readLine_136 (by decide) (fun c_136_46 => ?_) (fun c_136_46 => ?_)
                · exact absurd c_136_46 (by decide)
                · have t_136_46 := c_136_46
                  try simp only [kb_eq0, kb_ne0, lg_cmp_lt, lg_cmp_le, lg_cmp_gt, lg_cmp_ge, lg_cmp_eq] at t_136_46
                  try simp only [Int32.lt_iff_toInt_lt, Int32.le_iff_toInt_le, ← Int32.toInt_inj, Int64.lt_iff_toInt_lt, Int64.le_iff_toInt_le, ← Int64.toInt_inj, Int32.toInt_toInt64, Int32.reduceToInt, Int64.reduceToInt] at t_136_46
                  refine lv_aload_n hx hb dX8_readLine_139 rfl (lv_at hl 3 rfl) ?_
                  refine lv_bipush (v := 11) hx hb dX8_readLine_140 (by decide) ?_
                  refine lv_ldc2 (v := 34359738368) hx hb hown (hts (.constantLong RX8 140 (34359738368)) (List.mem_of_getElem? (i := 6) rfl)) dX8_readLine_142 ?_
                  refine kCallL (wr := [(mA, .inl (cI, 200, .inl (upd fA k.toNatClampNeg r_1.toInt32))), (mB, .inl (cL, 200, .inr (.inl fB))), (mW, .inl (cZ, 200, .inl (upd (upd fW k.toNatClampNeg (vp_nar .boolean 0)) k.toNatClampNeg (vp_nar .boolean 1))))]) (va_runV (As := [.int 11, .long 34359738368]) (rest := []) ⟨hx, hb, hml, hown, hts⟩ (q_figures l D cI cL cB cZ cT _ m0 mH mI mJ mS mD mX mA mB mW mL aM aC mM mQ oV pL lI sW dP sT aT cH iW iH aE mN sZ tS (u_r_44.1) (u_r_44.2) lS fX 11 34359738368 11 34359738367 (by decide) (by decide) (by decide) (by omega) (by omega)) (cwV 2 hts gX8_readLine_X8_figures rfl rfl rfl (by decide +kernel) ⟨Nat.le_of_ble_eq_true rfl, Nat.le_of_ble_eq_true rfl⟩) (kPreV hG hP hD [3, 4] rfl (by decide) 0 8 rfl rfl rfl) rfl rfl hl.1 rfl (lv_room (Nat.le_of_ble_eq_true rfl)) dX8_readLine_145 ⟨Nat.le_of_ble_eq_true rfl, Nat.le_of_ble_eq_true rfl⟩) hA hP hD hS [3, 4] [0, 1, 2] rfl rfl (by decide) (by decide) (fun r_48 u_r_48 H locs wr_48 hP hD hS => ?_)
                  have hP : va_P D vwCl [(mA, .inl (cI, 200, .inl (upd fA k.toNatClampNeg r_1.toInt32))), (mB, .inl (cL, 200, .inr (.inl fB))), (mW, .inl (cZ, 200, .inl (upd (upd fW k.toNatClampNeg (vp_nar .boolean 0)) k.toNatClampNeg (vp_nar .boolean 1)))), (m0, .inr (8, [.ref mH, .int aM, .long aC, .int mM, .long mQ, .int oV, .int pL, .int lI, .int sW, .int dP, .int sT, .long aT, .int cH, .int iW, .ref mI, .ref mJ, .ref mS, .ref mD, .int iH, .int aE, .int mN, .long sZ, .ref mX, .int tS, .int u_r_48.1, .int u_r_48.2, .ref mA, .ref mB, .ref mW, .ref mL, .int lS])), (mX, .inl (cB, 2000, .inl fX))] H := hP
                  have hD : va_D A [(mA, .inl (cI, 200, .inl (upd fA k.toNatClampNeg r_1.toInt32))), (mB, .inl (cL, 200, .inr (.inl fB))), (mW, .inl (cZ, 200, .inl (upd (upd fW k.toNatClampNeg (vp_nar .boolean 0)) k.toNatClampNeg (vp_nar .boolean 1)))), (m0, .inr (8, [.ref mH, .int aM, .long aC, .int mM, .long mQ, .int oV, .int pL, .int lI, .int sW, .int dP, .int sT, .long aT, .int cH, .int iW, .ref mI, .ref mJ, .ref mS, .ref mD, .int iH, .int aE, .int mN, .long sZ, .ref mX, .int tS, .int u_r_48.1, .int u_r_48.2, .ref mA, .ref mB, .ref mW, .ref mL, .int lS])), (mX, .inl (cB, 2000, .inl fX))] := hD
                  try dsimp only at wr_48
                  try simp only [Int32.reduceToInt, Int64.reduceToInt] at wr_48
                  obtain ⟨wr_48_0, wr_48_1, wr_48_2⟩ := wr_48
                  have rgr_48 := kNm_r (f := fX) hts2 11 (u_r_44.1) 0 (by omega) (by omega)
                  rw [← wr_48_1] at rgr_48
                  have wnr_48 := kif_w wr_48_2 (by omega) (by omega)
                  refine lv_goto (tgt := 160) hx hb dX8_readLine_148 (by decide) ?_
                  refine lv_lstore (lv' := [(5, .long r_48), (4, .int r_44), (3, .int 1), (2, .int tA), (0, .ref m0), (1, .int k)]) hx hb dX8_readLine_160 hl (by decide) rfl (fun ls hl => ?_)
                  refine lv_aload_n hx hb dX8_readLine_162 rfl (lv_at hl 4 rfl) ?_
                  refine va_get (D := D) (ci := 8) (v := .ref mB) (C := RX8) (T := TX8) (N := 31) hx hb hts iX8_readLine_X8 hown hK hP 3 rfl rfl 27 (by decide) (hts (.fieldLink RX8 33 "TapeCalculatorModel" "lineBits" "[J") (List.mem_of_getElem? (i := 8) rfl)) (fun _ h9 => h9) rfl dX8_readLine_163 ?_
                  refine lv_iload_n hx hb dX8_readLine_166 rfl (lv_at hl 5 rfl) ?_
                  refine lv_lload hx hb dX8_readLine_167 (lv_at hl 0 rfl) ?_
                  refine lv_iload hx hb dX8_readLine_169 (lv_at hl 1 rfl) ?_
                  refine lv_if_eq (tgt := 190) hx hb dX8_readLine_171 (by decide) (fun c_171_48 => ?_) (fun c_171_48 => ?_)
                  · have t_171_48 := c_171_48
                    try simp only [kb_eq0, kb_ne0, lg_cmp_lt, lg_cmp_le, lg_cmp_gt, lg_cmp_ge, lg_cmp_eq] at t_171_48
                    try simp only [Int32.lt_iff_toInt_lt, Int32.le_iff_toInt_le, ← Int32.toInt_inj, Int64.lt_iff_toInt_lt, Int64.le_iff_toInt_le, ← Int64.toInt_inj, Int32.toInt_toInt64, Int32.reduceToInt, Int64.reduceToInt] at t_171_48
                    refine lv_lconst (v := 0) hx hb dX8_readLine_190 (by decide) ?_
                    refine lv_lor hx hb dX8_readLine_191 ?_
                    refine va_last hx hb hK hP hD hS 1 1 rfl rfl (vp_in_iff.mpr (by omega)) dX8_readLine_192 (fun H locs hP hD hS => ?_)
                    have hP : va_P D vwCl [(mA, .inl (cI, 200, .inl (upd fA k.toNatClampNeg r_1.toInt32))), (mB, .inl (cL, 200, .inr (.inl (vp_updL fB k.toNatClampNeg (r_48 ||| 0))))), (mW, .inl (cZ, 200, .inl (upd (upd fW k.toNatClampNeg (vp_nar .boolean 0)) k.toNatClampNeg (vp_nar .boolean 1)))), (m0, .inr (8, [.ref mH, .int aM, .long aC, .int mM, .long mQ, .int oV, .int pL, .int lI, .int sW, .int dP, .int sT, .long aT, .int cH, .int iW, .ref mI, .ref mJ, .ref mS, .ref mD, .int iH, .int aE, .int mN, .long sZ, .ref mX, .int tS, .int u_r_48.1, .int u_r_48.2, .ref mA, .ref mB, .ref mW, .ref mL, .int lS])), (mX, .inl (cB, 2000, .inl fX))] H := hP
                    have hD : va_D A [(mA, .inl (cI, 200, .inl (upd fA k.toNatClampNeg r_1.toInt32))), (mB, .inl (cL, 200, .inr (.inl (vp_updL fB k.toNatClampNeg (r_48 ||| 0))))), (mW, .inl (cZ, 200, .inl (upd (upd fW k.toNatClampNeg (vp_nar .boolean 0)) k.toNatClampNeg (vp_nar .boolean 1)))), (m0, .inr (8, [.ref mH, .int aM, .long aC, .int mM, .long mQ, .int oV, .int pL, .int lI, .int sW, .int dP, .int sT, .long aT, .int cH, .int iW, .ref mI, .ref mJ, .ref mS, .ref mD, .int iH, .int aE, .int mN, .long sZ, .ref mX, .int tS, .int u_r_48.1, .int u_r_48.2, .ref mA, .ref mB, .ref mW, .ref mL, .int lS])), (mX, .inl (cB, 2000, .inl fX))] := hD
                    refine lv_goto (tgt := 273) hx hb dX8_readLine_193 (by decide) ?_
                    refine lv_aload_n hx hb dX8_readLine_273 rfl (lv_at hl 4 rfl) ?_
                    refine lv_bipush (v := 10) hx hb dX8_readLine_274 (by decide) ?_
                    refine kCallVd (wr := [(mA, .inl (cI, 200, .inl (upd fA k.toNatClampNeg r_1.toInt32))), (mB, .inl (cL, 200, .inr (.inl (vp_updL fB k.toNatClampNeg (r_48 ||| 0))))), (mW, .inl (cZ, 200, .inl (upd (upd fW k.toNatClampNeg (vp_nar .boolean 0)) k.toNatClampNeg (vp_nar .boolean 1))))]) (va_runV (As := [.int 10]) (rest := []) ⟨hx, hb, hml, hown, hts⟩ (q_expect l D cI cL cB cZ cT _ m0 mH mI mJ mS mD mX mA mB mW mL aM aC mM mQ oV pL lI sW dP sT aT cH iW iH aE mN sZ tS (u_r_48.1) (u_r_48.2) lS fX 10 10 (by decide) (by omega) (by omega)) (cwV 1 hts gX8_readLine_X8_expect rfl rfl rfl (by decide +kernel) ⟨Nat.le_of_ble_eq_true rfl, Nat.le_of_ble_eq_true rfl⟩) (kPreV hG hP hD [3, 4] rfl (by decide) 0 8 rfl rfl rfl) rfl rfl hl.1 rfl (lv_room (Nat.le_of_ble_eq_true rfl)) dX8_readLine_276 ⟨Nat.le_of_ble_eq_true rfl, Nat.le_of_ble_eq_true rfl⟩) hA hP hD hS [3, 4] [0, 1, 2] rfl rfl (by decide) (by decide) (fun _ u_r_50 H locs wr_50 hP hD hS => ?_)
                    have hP : va_P D vwCl [(mA, .inl (cI, 200, .inl (upd fA k.toNatClampNeg r_1.toInt32))), (mB, .inl (cL, 200, .inr (.inl (vp_updL fB k.toNatClampNeg (r_48 ||| 0))))), (mW, .inl (cZ, 200, .inl (upd (upd fW k.toNatClampNeg (vp_nar .boolean 0)) k.toNatClampNeg (vp_nar .boolean 1)))), (m0, .inr (8, [.ref mH, .int aM, .long aC, .int mM, .long mQ, .int oV, .int pL, .int lI, .int sW, .int dP, .int sT, .long aT, .int cH, .int iW, .ref mI, .ref mJ, .ref mS, .ref mD, .int iH, .int aE, .int mN, .long sZ, .ref mX, .int tS, .int u_r_50.1, .int u_r_50.2, .ref mA, .ref mB, .ref mW, .ref mL, .int lS])), (mX, .inl (cB, 2000, .inl fX))] H := hP
                    have hD : va_D A [(mA, .inl (cI, 200, .inl (upd fA k.toNatClampNeg r_1.toInt32))), (mB, .inl (cL, 200, .inr (.inl (vp_updL fB k.toNatClampNeg (r_48 ||| 0))))), (mW, .inl (cZ, 200, .inl (upd (upd fW k.toNatClampNeg (vp_nar .boolean 0)) k.toNatClampNeg (vp_nar .boolean 1)))), (m0, .inr (8, [.ref mH, .int aM, .long aC, .int mM, .long mQ, .int oV, .int pL, .int lI, .int sW, .int dP, .int sT, .long aT, .int cH, .int iW, .ref mI, .ref mJ, .ref mS, .ref mD, .int iH, .int aE, .int mN, .long sZ, .ref mX, .int tS, .int u_r_50.1, .int u_r_50.2, .ref mA, .ref mB, .ref mW, .ref mL, .int lS])), (mX, .inl (cB, 2000, .inl fX))] := hD
                    try dsimp only at wr_50
                    try simp only [Int32.reduceToInt, Int64.reduceToInt] at wr_50
                    obtain ⟨wr_50_0, wr_50_1⟩ := wr_50
                    have rgr_50 : (u_r_48.1).toInt ≤ (u_r_50.1).toInt ∧ (u_r_50.1).toInt ≤ tS.toInt := by
                      by_cases h7 : (u_r_48.2).toInt < 0
                      · rw [(wr_50_0 h7).1]; exact kSk_r (by omega) hts2 (by decide)
                      · rw [(wr_50_1 h7).1]; omega
                    have wnr_50 : 0 ≤ (u_r_50.2).toInt ∨ (u_r_50.2).toInt = -1 := by
                      by_cases h7 : (u_r_48.2).toInt < 0
                      · exact kif_w (wr_50_0 h7).2 (by omega) (by omega)
                      · rw [(wr_50_1 h7).2]; omega
                    refine kVret (u := (u_r_50.1, u_r_50.2, (upd fA k.toNatClampNeg r_1.toInt32), (vp_updL fB k.toNatClampNeg (r_48 ||| 0)), (upd (upd fW k.toNatClampNeg (vp_nar .boolean 0)) k.toNatClampNeg (vp_nar .boolean 1)))) hx hb hr hlocks hS dX8_readLine_279 ?_ (hP.sub [3, 4, 0, 1, 2] rfl) (hD.sub [3, 4, 0, 1, 2] (by decide) rfl)
                    try dsimp only
                    have FR := kFr_r (f := fX) hta hts2 htw wr_1_0 wr_1_1 wr_1_2 wr_2_0 wr_2_1
                    have F2 := FR.resolve_left (fun h => absurd h.1 (by omega))
                    obtain ⟨F3, F4, F5⟩ := F2
                    rw [F4]
                    have ho := k_oddR (v := r_1) F5
                    have t9 := t_113_42
                    rw [pk_us] at t9
                    rw [kLb_w (by omega) (by rw [← ex_25]; omega) (by omega), ← ex_25, ← ex_41]
                    refine ⟨kTl_y (f := fX) (by omega) hts2 F3 wr_44_1 wr_44_2 (by omega) wr_48_1 wr_48_2 wr_50_0 wr_50_1, by omega, fun j hj => ⟨?_, ?_⟩, ?_, ?_⟩
                    · first | exact pk_un hj | exact (pk_un hj).trans (pk_un hj) | rfl
                    · first | rfl | exact pk_un hj | exact (pk_un hj).trans (pk_un hj)
                    · by_cases hz : 0 ≤ (u_r_50.2).toInt
                      · exact Or.inl hz
                      · right
                        have hx8 := k_l2i (v := r_1) (by omega)
                        refine ⟨by rw [pk_us]; omega, ?_⟩
                        first | exact Or.inl (pk_us.trans rfl) | exact (Or.inr ((k_even (by rw [pk_us]; omega)).2.2 t_113_42))
                    · omega
                  · have t_171_48 := c_171_48
                    try simp only [kb_eq0, kb_ne0, lg_cmp_lt, lg_cmp_le, lg_cmp_gt, lg_cmp_ge, lg_cmp_eq] at t_171_48
                    try simp only [Int32.lt_iff_toInt_lt, Int32.le_iff_toInt_le, ← Int32.toInt_inj, Int64.lt_iff_toInt_lt, Int64.le_iff_toInt_le, ← Int64.toInt_inj, Int32.toInt_toInt64, Int32.reduceToInt, Int64.reduceToInt] at t_171_48
                    refine lv_iload_n hx hb dX8_readLine_174 rfl (lv_at hl 2 rfl) ?_
                    refine lv_if_eq (tgt := 184) hx hb dX8_readLine_175 (by decide) (fun c_175_50 => ?_) (fun c_175_50 => ?_)
                    · exact absurd c_175_50 (by decide)
                    · have t_175_50 := c_175_50
                      try simp only [kb_eq0, kb_ne0, lg_cmp_lt, lg_cmp_le, lg_cmp_gt, lg_cmp_ge, lg_cmp_eq] at t_175_50
                      try simp only [Int32.lt_iff_toInt_lt, Int32.le_iff_toInt_le, ← Int32.toInt_inj, Int64.lt_iff_toInt_lt, Int64.le_iff_toInt_le, ← Int64.toInt_inj, Int32.toInt_toInt64, Int32.reduceToInt, Int64.reduceToInt] at t_175_50
                      refine lv_ldc2 (v := 34359738368) hx hb hown (hts (.constantLong RX8 140 (34359738368)) (List.mem_of_getElem? (i := 6) rfl)) dX8_readLine_178 ?_
                      refine lv_goto (tgt := 191) hx hb dX8_readLine_181 (by decide) ?_
                      refine lv_lor hx hb dX8_readLine_191 ?_
                      refine va_last hx hb hK hP hD hS 1 1 rfl rfl (vp_in_iff.mpr (by omega)) dX8_readLine_192 (fun H locs hP hD hS => ?_)
                      have hP : va_P D vwCl [(mA, .inl (cI, 200, .inl (upd fA k.toNatClampNeg r_1.toInt32))), (mB, .inl (cL, 200, .inr (.inl (vp_updL fB k.toNatClampNeg (r_48 ||| 34359738368))))), (mW, .inl (cZ, 200, .inl (upd (upd fW k.toNatClampNeg (vp_nar .boolean 0)) k.toNatClampNeg (vp_nar .boolean 1)))), (m0, .inr (8, [.ref mH, .int aM, .long aC, .int mM, .long mQ, .int oV, .int pL, .int lI, .int sW, .int dP, .int sT, .long aT, .int cH, .int iW, .ref mI, .ref mJ, .ref mS, .ref mD, .int iH, .int aE, .int mN, .long sZ, .ref mX, .int tS, .int u_r_48.1, .int u_r_48.2, .ref mA, .ref mB, .ref mW, .ref mL, .int lS])), (mX, .inl (cB, 2000, .inl fX))] H := hP
                      have hD : va_D A [(mA, .inl (cI, 200, .inl (upd fA k.toNatClampNeg r_1.toInt32))), (mB, .inl (cL, 200, .inr (.inl (vp_updL fB k.toNatClampNeg (r_48 ||| 34359738368))))), (mW, .inl (cZ, 200, .inl (upd (upd fW k.toNatClampNeg (vp_nar .boolean 0)) k.toNatClampNeg (vp_nar .boolean 1)))), (m0, .inr (8, [.ref mH, .int aM, .long aC, .int mM, .long mQ, .int oV, .int pL, .int lI, .int sW, .int dP, .int sT, .long aT, .int cH, .int iW, .ref mI, .ref mJ, .ref mS, .ref mD, .int iH, .int aE, .int mN, .long sZ, .ref mX, .int tS, .int u_r_48.1, .int u_r_48.2, .ref mA, .ref mB, .ref mW, .ref mL, .int lS])), (mX, .inl (cB, 2000, .inl fX))] := hD
                      refine lv_goto (tgt := 273) hx hb dX8_readLine_193 (by decide) ?_
                      refine lv_aload_n hx hb dX8_readLine_273 rfl (lv_at hl 4 rfl) ?_
                      refine lv_bipush (v := 10) hx hb dX8_readLine_274 (by decide) ?_
                      refine kCallVd (wr := [(mA, .inl (cI, 200, .inl (upd fA k.toNatClampNeg r_1.toInt32))), (mB, .inl (cL, 200, .inr (.inl (vp_updL fB k.toNatClampNeg (r_48 ||| 34359738368))))), (mW, .inl (cZ, 200, .inl (upd (upd fW k.toNatClampNeg (vp_nar .boolean 0)) k.toNatClampNeg (vp_nar .boolean 1))))]) (va_runV (As := [.int 10]) (rest := []) ⟨hx, hb, hml, hown, hts⟩ (q_expect l D cI cL cB cZ cT _ m0 mH mI mJ mS mD mX mA mB mW mL aM aC mM mQ oV pL lI sW dP sT aT cH iW iH aE mN sZ tS (u_r_48.1) (u_r_48.2) lS fX 10 10 (by decide) (by omega) (by omega)) (cwV 1 hts gX8_readLine_X8_expect rfl rfl rfl (by decide +kernel) ⟨Nat.le_of_ble_eq_true rfl, Nat.le_of_ble_eq_true rfl⟩) (kPreV hG hP hD [3, 4] rfl (by decide) 0 8 rfl rfl rfl) rfl rfl hl.1 rfl (lv_room (Nat.le_of_ble_eq_true rfl)) dX8_readLine_276 ⟨Nat.le_of_ble_eq_true rfl, Nat.le_of_ble_eq_true rfl⟩) hA hP hD hS [3, 4] [0, 1, 2] rfl rfl (by decide) (by decide) (fun _ u_r_52 H locs wr_52 hP hD hS => ?_)
                      have hP : va_P D vwCl [(mA, .inl (cI, 200, .inl (upd fA k.toNatClampNeg r_1.toInt32))), (mB, .inl (cL, 200, .inr (.inl (vp_updL fB k.toNatClampNeg (r_48 ||| 34359738368))))), (mW, .inl (cZ, 200, .inl (upd (upd fW k.toNatClampNeg (vp_nar .boolean 0)) k.toNatClampNeg (vp_nar .boolean 1)))), (m0, .inr (8, [.ref mH, .int aM, .long aC, .int mM, .long mQ, .int oV, .int pL, .int lI, .int sW, .int dP, .int sT, .long aT, .int cH, .int iW, .ref mI, .ref mJ, .ref mS, .ref mD, .int iH, .int aE, .int mN, .long sZ, .ref mX, .int tS, .int u_r_52.1, .int u_r_52.2, .ref mA, .ref mB, .ref mW, .ref mL, .int lS])), (mX, .inl (cB, 2000, .inl fX))] H := hP
                      have hD : va_D A [(mA, .inl (cI, 200, .inl (upd fA k.toNatClampNeg r_1.toInt32))), (mB, .inl (cL, 200, .inr (.inl (vp_updL fB k.toNatClampNeg (r_48 ||| 34359738368))))), (mW, .inl (cZ, 200, .inl (upd (upd fW k.toNatClampNeg (vp_nar .boolean 0)) k.toNatClampNeg (vp_nar .boolean 1)))), (m0, .inr (8, [.ref mH, .int aM, .long aC, .int mM, .long mQ, .int oV, .int pL, .int lI, .int sW, .int dP, .int sT, .long aT, .int cH, .int iW, .ref mI, .ref mJ, .ref mS, .ref mD, .int iH, .int aE, .int mN, .long sZ, .ref mX, .int tS, .int u_r_52.1, .int u_r_52.2, .ref mA, .ref mB, .ref mW, .ref mL, .int lS])), (mX, .inl (cB, 2000, .inl fX))] := hD
                      try dsimp only at wr_52
                      try simp only [Int32.reduceToInt, Int64.reduceToInt] at wr_52
                      obtain ⟨wr_52_0, wr_52_1⟩ := wr_52
                      have rgr_52 : (u_r_48.1).toInt ≤ (u_r_52.1).toInt ∧ (u_r_52.1).toInt ≤ tS.toInt := by
                        by_cases h7 : (u_r_48.2).toInt < 0
                        · rw [(wr_52_0 h7).1]; exact kSk_r (by omega) hts2 (by decide)
                        · rw [(wr_52_1 h7).1]; omega
                      have wnr_52 : 0 ≤ (u_r_52.2).toInt ∨ (u_r_52.2).toInt = -1 := by
                        by_cases h7 : (u_r_48.2).toInt < 0
                        · exact kif_w (wr_52_0 h7).2 (by omega) (by omega)
                        · rw [(wr_52_1 h7).2]; omega
                      refine kVret (u := (u_r_52.1, u_r_52.2, (upd fA k.toNatClampNeg r_1.toInt32), (vp_updL fB k.toNatClampNeg (r_48 ||| 34359738368)), (upd (upd fW k.toNatClampNeg (vp_nar .boolean 0)) k.toNatClampNeg (vp_nar .boolean 1)))) hx hb hr hlocks hS dX8_readLine_279 ?_ (hP.sub [3, 4, 0, 1, 2] rfl) (hD.sub [3, 4, 0, 1, 2] (by decide) rfl)
                      try dsimp only
                      have FR := kFr_r (f := fX) hta hts2 htw wr_1_0 wr_1_1 wr_1_2 wr_2_0 wr_2_1
                      have F2 := FR.resolve_left (fun h => absurd h.1 (by omega))
                      obtain ⟨F3, F4, F5⟩ := F2
                      rw [F4]
                      have ho := k_oddR (v := r_1) F5
                      have t9 := t_113_42
                      rw [pk_us] at t9
                      rw [kLb_w (by omega) (by rw [← ex_25]; omega) (by omega), ← ex_25, ← ex_41]
                      refine ⟨kTl_y (f := fX) (by omega) hts2 F3 wr_44_1 wr_44_2 (by omega) wr_48_1 wr_48_2 wr_52_0 wr_52_1, by omega, fun j hj => ⟨?_, ?_⟩, ?_, ?_⟩
                      · first | exact pk_un hj | exact (pk_un hj).trans (pk_un hj) | rfl
                      · first | rfl | exact pk_un hj | exact (pk_un hj).trans (pk_un hj)
                      · by_cases hz : 0 ≤ (u_r_52.2).toInt
                        · exact Or.inl hz
                        · right
                          have hx8 := k_l2i (v := r_1) (by omega)
                          refine ⟨by rw [pk_us]; omega, ?_⟩
                          first | exact Or.inl (pk_us.trans rfl) | exact (Or.inr ((k_even (by rw [pk_us]; omega)).2.2 t_113_42))
                      · omega
            · have t_113_42 := c_113_42
              try simp only [kb_eq0, kb_ne0, lg_cmp_lt, lg_cmp_le, lg_cmp_gt, lg_cmp_ge, lg_cmp_eq] at t_113_42
              try simp only [Int32.lt_iff_toInt_lt, Int32.le_iff_toInt_le, ← Int32.toInt_inj, Int64.lt_iff_toInt_lt, Int64.le_iff_toInt_le, ← Int64.toInt_inj, Int32.toInt_toInt64, Int32.reduceToInt, Int64.reduceToInt] at t_113_42
              refine lv_aload_n hx hb dX8_readLine_116 rfl (lv_at hl 2 rfl) ?_
              refine lv_iload_n hx hb dX8_readLine_117 rfl (lv_at hl 1 rfl) ?_
              refine va_put (D := D) (ci := 8) (v := .int tA) (ty := .int) (C := RX8) (T := TX8) (N := 31) hx hb hts iX8_readLine_X8 tyX8 tyX8_ok nmX8 hown hK hP hD hS 3 rfl rfl 25 (by decide) (hts (.fieldLink RX8 259 "TapeCalculatorModel" "wrong" "I") (List.mem_of_getElem? (i := 4) rfl)) (fun _ h9 => h9) rfl (by decide +kernel) rfl rfl (Nat.le_of_ble_eq_true rfl) dX8_readLine_118 (fun H locs hP hD hS => ?_)
              have hP : va_P D vwCl [(mA, .inl (cI, 200, .inl (upd fA k.toNatClampNeg r_1.toInt32))), (mB, .inl (cL, 200, .inr (.inl fB))), (mW, .inl (cZ, 200, .inl (upd (upd fW k.toNatClampNeg (vp_nar .boolean 0)) k.toNatClampNeg (vp_nar .boolean 1)))), (m0, .inr (8, [.ref mH, .int aM, .long aC, .int mM, .long mQ, .int oV, .int pL, .int lI, .int sW, .int dP, .int sT, .long aT, .int cH, .int iW, .ref mI, .ref mJ, .ref mS, .ref mD, .int iH, .int aE, .int mN, .long sZ, .ref mX, .int tS, .int x_41, .int tA, .ref mA, .ref mB, .ref mW, .ref mL, .int lS])), (mX, .inl (cB, 2000, .inl fX))] H := hP
              have hD : va_D A [(mA, .inl (cI, 200, .inl (upd fA k.toNatClampNeg r_1.toInt32))), (mB, .inl (cL, 200, .inr (.inl fB))), (mW, .inl (cZ, 200, .inl (upd (upd fW k.toNatClampNeg (vp_nar .boolean 0)) k.toNatClampNeg (vp_nar .boolean 1)))), (m0, .inr (8, [.ref mH, .int aM, .long aC, .int mM, .long mQ, .int oV, .int pL, .int lI, .int sW, .int dP, .int sT, .long aT, .int cH, .int iW, .ref mI, .ref mJ, .ref mS, .ref mD, .int iH, .int aE, .int mN, .long sZ, .ref mX, .int tS, .int x_41, .int tA, .ref mA, .ref mB, .ref mW, .ref mL, .int lS])), (mX, .inl (cB, 2000, .inl fX))] := hD
              refine kVret (u := (x_41, tA, (upd fA k.toNatClampNeg r_1.toInt32), fB, (upd (upd fW k.toNatClampNeg (vp_nar .boolean 0)) k.toNatClampNeg (vp_nar .boolean 1)))) hx hb hr hlocks hS dX8_readLine_121 ?_ (hP.sub [3, 4, 0, 1, 2] rfl) (hD.sub [3, 4, 0, 1, 2] (by decide) rfl)
              try dsimp only
              have FR := kFr_r (f := fX) hta hts2 htw wr_1_0 wr_1_1 wr_1_2 wr_2_0 wr_2_1
              have F2 := FR.resolve_left (fun h => absurd h.1 (by omega))
              obtain ⟨F3, F4, F5⟩ := F2
              rw [F4]
              have ho := k_oddR (v := r_1) F5
              have t9 := t_113_42
              rw [pk_us] at t9
              rw [kLb_o (by omega) (by rw [← ex_25]; omega) (by omega)]
              refine ⟨kOk_n rfl (by omega), by omega, fun j hj => ⟨?_, ?_⟩, Or.inl (by omega), Or.inl (by omega)⟩
              · first | exact pk_un hj | exact (pk_un hj).trans (pk_un hj) | rfl
              · first | rfl | exact pk_un hj | exact (pk_un hj).trans (pk_un hj)
  · have t_30_2 := c_30_2
    try simp only [kb_eq0, kb_ne0, lg_cmp_lt, lg_cmp_le, lg_cmp_gt, lg_cmp_ge, lg_cmp_eq] at t_30_2
    try simp only [Int32.lt_iff_toInt_lt, Int32.le_iff_toInt_le, ← Int32.toInt_inj, Int64.lt_iff_toInt_lt, Int64.le_iff_toInt_le, ← Int64.toInt_inj, Int32.toInt_toInt64, Int32.reduceToInt, Int64.reduceToInt] at t_30_2
    refine kVret (u := (u_r_2.1, u_r_2.2, (upd fA k.toNatClampNeg r_1.toInt32), fB, fW)) hx hb hr hlocks hS dX8_readLine_33 ?_ (hP.sub [3, 4, 0, 1, 2] rfl) (hD.sub [3, 4, 0, 1, 2] (by decide) rfl)
    try dsimp only
    have FR := kFr_r (f := fX) hta hts2 htw wr_1_0 wr_1_1 wr_1_2 wr_2_0 wr_2_1
    have F1 := FR.resolve_right (fun h => absurd h.1 (by omega))
    refine ⟨kOk_n F1.2 (by omega), by omega, fun j hj => ⟨?_, ?_⟩, Or.inl (by omega), Or.inl (by omega)⟩
    · first | exact pk_un hj | exact (pk_un hj).trans (pk_un hj) | rfl
    · first | rfl | exact pk_un hj | exact (pk_un hj).trans (pk_un hj)
set_option maxRecDepth 100000 in
theorem iX8_load_X8 : ∀ w ∈ wsX80, w ∈ wsX8_load := fun w h => (goodIn_r (big := wsX8_load) wsX80 [50, 51, 52, 53, 54, 55, 56, 57, 58, 59, 60, 61, 62, 63, 64, 65, 66, 67, 68, 69, 70, 71, 72, 73, 74, 75, 76, 77, 78, 79, 80] rfl (by decide +kernel) w h).1
set_option maxRecDepth 100000 in
set_option maxHeartbeats 4000000 in
theorem q_load (l : Launch) (D : va_G) (cI cL cB cZ cT : ClassId) (sz : Nat) (m0 mH mI mJ mS mD mX mA mB mW mL : Nat) (aM : Int32) (aC : Int64) (mM : Int32) (mQ : Int64) (oV pL lI sW dP sT : Int32) (aT : Int64) (cH iW iH aE mN : Int32) (sZ : Int64) (tS tA tW lS : Int32) (fH : Nat → Int32) (fX : Nat → Int32) (fA : Nat → Int32) (fB : Nat → Int64) (fW : Nat → Int32) (htz : 0 ≤ tS.toInt) (hts2 : tS.toInt ≤ 2000) : kM (S := (Int32 × Int32 × (Nat → Int32) × (Nat → Int32) × (Nat → Int64) × (Nat → Int32))) l yX8_load wsX8_load ({ frames := 4, cells := 0, slots := 0, locals := 98 }) D (kT cI cL cB cZ cT) [.ref m0] [(m0, .inr (8, [.ref mH, .int aM, .long aC, .int mM, .long mQ, .int oV, .int pL, .int lI, .int sW, .int dP, .int sT, .long aT, .int cH, .int iW, .ref mI, .ref mJ, .ref mS, .ref mD, .int iH, .int aE, .int mN, .long sZ, .ref mX, .int tS, .int tA, .int tW, .ref mA, .ref mB, .ref mW, .ref mL, .int lS])), (mH, .inl (cI, 512, .inl fH)), (mX, .inl (cB, 2000, .inl fX)), (mA, .inl (cI, 200, .inl fA)), (mB, .inl (cL, 200, .inr (.inl fB))), (mW, .inl (cZ, 200, .inl fW))] sz eI (fun r u => r = kLd tS fX 200 0 0) (fun u => [(m0, .inr (8, [.ref mH, .int aM, .long aC, .int mM, .long mQ, .int oV, .int pL, .int lI, .int sW, .int dP, .int sT, .long aT, .int cH, .int iW, .ref mI, .ref mJ, .ref mS, .ref mD, .int iH, .int aE, .int mN, .long sZ, .ref mX, .int 0, .int u.1, .int u.2.1, .ref mA, .ref mB, .ref mW, .ref mL, .int lS])), (mH, .inl (cI, 512, .inl u.2.2.1)), (mX, .inl (cB, 2000, .inl fX)), (mA, .inl (cI, 200, .inl u.2.2.2.1)), (mB, .inl (cL, 200, .inr (.inl u.2.2.2.2.1))), (mW, .inl (cZ, 200, .inl u.2.2.2.2.2))]) 0 0 := by
  refine kStart (cc := cX8_load) (maxL := 3) (ret := (some .int)) (own := RX8) (by decide) rfl rfl (Nat.le_of_ble_eq_true rfl) ?_
  intro p e s m args below meth c A ls hx hb hr hml hown hts hlocks hnm hsz hA hG hP hD hS hl
  have hK := hG.1
  have hl : lv_has ls 3 [(0, .ref m0)] := hl
  refine lv_aload_n hx hb dX8_load_0 rfl (lv_at hl 0 rfl) ?_
  refine lv_iconst (v := 0) hx hb dX8_load_1 (by decide) ?_
  refine va_put (D := D) (ci := 8) (v := .int 0) (ty := .int) (C := RX8) (T := TX8) (N := 31) hx hb hts iX8_load_X8 tyX8 tyX8_ok nmX8 hown hK hP hD hS 0 rfl rfl 24 (by decide) (hts (.fieldLink RX8 246 "TapeCalculatorModel" "at" "I") (List.mem_of_getElem? (i := 1) rfl)) (fun _ h9 => h9) rfl (by decide +kernel) rfl rfl (Nat.le_of_ble_eq_true rfl) dX8_load_2 (fun H locs hP hD hS => ?_)
  have hP : va_P D vwCl [(m0, .inr (8, [.ref mH, .int aM, .long aC, .int mM, .long mQ, .int oV, .int pL, .int lI, .int sW, .int dP, .int sT, .long aT, .int cH, .int iW, .ref mI, .ref mJ, .ref mS, .ref mD, .int iH, .int aE, .int mN, .long sZ, .ref mX, .int tS, .int 0, .int tW, .ref mA, .ref mB, .ref mW, .ref mL, .int lS])), (mH, .inl (cI, 512, .inl fH)), (mX, .inl (cB, 2000, .inl fX)), (mA, .inl (cI, 200, .inl fA)), (mB, .inl (cL, 200, .inr (.inl fB))), (mW, .inl (cZ, 200, .inl fW))] H := hP
  have hD : va_D A [(m0, .inr (8, [.ref mH, .int aM, .long aC, .int mM, .long mQ, .int oV, .int pL, .int lI, .int sW, .int dP, .int sT, .long aT, .int cH, .int iW, .ref mI, .ref mJ, .ref mS, .ref mD, .int iH, .int aE, .int mN, .long sZ, .ref mX, .int tS, .int 0, .int tW, .ref mA, .ref mB, .ref mW, .ref mL, .int lS])), (mH, .inl (cI, 512, .inl fH)), (mX, .inl (cB, 2000, .inl fX)), (mA, .inl (cI, 200, .inl fA)), (mB, .inl (cL, 200, .inr (.inl fB))), (mW, .inl (cZ, 200, .inl fW))] := hD
  refine lv_aload_n hx hb dX8_load_5 rfl (lv_at hl 0 rfl) ?_
  refine lv_iconst (v := (-1)) hx hb dX8_load_6 (by decide) ?_
  refine va_put (D := D) (ci := 8) (v := .int (-1)) (ty := .int) (C := RX8) (T := TX8) (N := 31) hx hb hts iX8_load_X8 tyX8 tyX8_ok nmX8 hown hK hP hD hS 0 rfl rfl 25 (by decide) (hts (.fieldLink RX8 259 "TapeCalculatorModel" "wrong" "I") (List.mem_of_getElem? (i := 2) rfl)) (fun _ h9 => h9) rfl (by decide +kernel) rfl rfl (Nat.le_of_ble_eq_true rfl) dX8_load_7 (fun H locs hP hD hS => ?_)
  have hP : va_P D vwCl [(m0, .inr (8, [.ref mH, .int aM, .long aC, .int mM, .long mQ, .int oV, .int pL, .int lI, .int sW, .int dP, .int sT, .long aT, .int cH, .int iW, .ref mI, .ref mJ, .ref mS, .ref mD, .int iH, .int aE, .int mN, .long sZ, .ref mX, .int tS, .int 0, .int (-1), .ref mA, .ref mB, .ref mW, .ref mL, .int lS])), (mH, .inl (cI, 512, .inl fH)), (mX, .inl (cB, 2000, .inl fX)), (mA, .inl (cI, 200, .inl fA)), (mB, .inl (cL, 200, .inr (.inl fB))), (mW, .inl (cZ, 200, .inl fW))] H := hP
  have hD : va_D A [(m0, .inr (8, [.ref mH, .int aM, .long aC, .int mM, .long mQ, .int oV, .int pL, .int lI, .int sW, .int dP, .int sT, .long aT, .int cH, .int iW, .ref mI, .ref mJ, .ref mS, .ref mD, .int iH, .int aE, .int mN, .long sZ, .ref mX, .int tS, .int 0, .int (-1), .ref mA, .ref mB, .ref mW, .ref mL, .int lS])), (mH, .inl (cI, 512, .inl fH)), (mX, .inl (cB, 2000, .inl fX)), (mA, .inl (cI, 200, .inl fA)), (mB, .inl (cL, 200, .inr (.inl fB))), (mW, .inl (cZ, 200, .inl fW))] := hD
  refine lv_iconst (v := 0) hx hb dX8_load_10 (by decide) ?_
  refine lv_istore_n (lv' := [(1, .int 0), (0, .ref m0)]) hx hb dX8_load_11 rfl hl (by decide) rfl (fun ls hl => ?_)
  have J12 : ∀ (k : Nat) (nv : Int32) (av : Int32) (wv : Int32) (fAv : Nat → Int32) (fBv : Nat → Int64) (fWv : Nat → Int32), (200 - nv.toInt).toNat < k → 0 ≤ nv.toInt ∧ nv.toInt ≤ 200 ∧ 0 ≤ av.toInt ∧ av.toInt ≤ tS.toInt → 0 ≤ wv.toInt ∨ wv.toInt = -1 → (wv.toInt < 0 → (∀ j : Nat, (j : Int) < nv.toInt → LAok (fAv j) (fWv j))) → (wv.toInt = -1 → kRest tS fX av nv) → (0 ≤ wv.toInt → -10 - wv = kLd tS fX 200 0 0) → ∀ (H : Heap) (locs : List Loc), va_P D vwCl [(m0, .inr (8, [.ref mH, .int aM, .long aC, .int mM, .long mQ, .int oV, .int pL, .int lI, .int sW, .int dP, .int sT, .long aT, .int cH, .int iW, .ref mI, .ref mJ, .ref mS, .ref mD, .int iH, .int aE, .int mN, .long sZ, .ref mX, .int tS, .int av, .int wv, .ref mA, .ref mB, .ref mW, .ref mL, .int lS])), (mH, .inl (cI, 512, .inl fH)), (mX, .inl (cB, 2000, .inl fX)), (mA, .inl (cI, 200, .inl fAv)), (mB, .inl (cL, 200, .inr (.inl fBv))), (mW, .inl (cZ, 200, .inl fWv))] H → va_D A [(m0, .inr (8, [.ref mH, .int aM, .long aC, .int mM, .long mQ, .int oV, .int pL, .int lI, .int sW, .int dP, .int sT, .long aT, .int cH, .int iW, .ref mI, .ref mJ, .ref mS, .ref mD, .int iH, .int aE, .int mN, .long sZ, .ref mX, .int tS, .int av, .int wv, .ref mA, .ref mB, .ref mW, .ref mL, .int lS])), (mH, .inl (cI, 512, .inl fH)), (mX, .inl (cB, 2000, .inl fX)), (mA, .inl (cI, 200, .inl fAv)), (mB, .inl (cL, 200, .inr (.inl fBv))), (mW, .inl (cZ, 200, .inl fWv))] → va_S A s.heap H locs → ∀ ls : Array Slot, lv_has ls 3 [(1, .int nv), (0, .ref m0)] → W p l e ({ frames := 4, cells := 0, slots := 0, locals := 98 }) s m args below meth c H locs 0 0 (MQ below (kQ (S := (Int32 × Int32 × (Nat → Int32) × (Nat → Int32) × (Nat → Int64) × (Nat → Int32))) eI (fun r u => r = kLd tS fX 200 0 0) D (fun u => [(m0, .inr (8, [.ref mH, .int aM, .long aC, .int mM, .long mQ, .int oV, .int pL, .int lI, .int sW, .int dP, .int sT, .long aT, .int cH, .int iW, .ref mI, .ref mJ, .ref mS, .ref mD, .int iH, .int aE, .int mN, .long sZ, .ref mX, .int 0, .int u.1, .int u.2.1, .ref mA, .ref mB, .ref mW, .ref mL, .int lS])), (mH, .inl (cI, 512, .inl u.2.2.1)), (mX, .inl (cB, 2000, .inl fX)), (mA, .inl (cI, 200, .inl u.2.2.2.1)), (mB, .inl (cL, 200, .inr (.inl u.2.2.2.2.1))), (mW, .inl (cZ, 200, .inl u.2.2.2.2.2))]) A) args s 0 0 A) (F0 m 12 ls []) := by
    intro k
    induction k with
    | zero =>
      intro nv av wv fAv fBv fWv hm
      exact absurd hm (Nat.not_lt_zero _)
    | succ k ih =>
      intro nv av wv fAv fBv fWv hm hrr hwm hla hk1 hk2 H locs hP hD hS ls hl
      refine lv_aload_n hx hb dX8_load_12 rfl (lv_at hl 1 rfl) ?_
      refine va_get (D := D) (ci := 8) (v := .int av) (C := RX8) (T := TX8) (N := 31) hx hb hts iX8_load_X8 hown hK hP 0 rfl rfl 24 (by decide) (hts (.fieldLink RX8 246 "TapeCalculatorModel" "at" "I") (List.mem_of_getElem? (i := 1) rfl)) (fun _ h9 => h9) rfl dX8_load_13 ?_
      refine lv_aload_n hx hb dX8_load_16 rfl (lv_at hl 1 rfl) ?_
      refine va_get (D := D) (ci := 8) (v := .int tS) (C := RX8) (T := TX8) (N := 31) hx hb hts iX8_load_X8 hown hK hP 0 rfl rfl 23 (by decide) (hts (.fieldLink RX8 243 "TapeCalculatorModel" "textSize" "I") (List.mem_of_getElem? (i := 3) rfl)) (fun _ h9 => h9) rfl dX8_load_17 ?_
      refine lv_icmp_ge (tgt := 59) hx hb dX8_load_20 (by decide) (fun c_20_0 => ?_) (fun c_20_0 => ?_)
      · have t_20_0 := c_20_0
        try simp only [kb_eq0, kb_ne0, lg_cmp_lt, lg_cmp_le, lg_cmp_gt, lg_cmp_ge, lg_cmp_eq] at t_20_0
        try simp only [Int32.lt_iff_toInt_lt, Int32.le_iff_toInt_le, ← Int32.toInt_inj, Int64.lt_iff_toInt_lt, Int64.le_iff_toInt_le, ← Int64.toInt_inj, Int32.toInt_toInt64, Int32.reduceToInt, Int64.reduceToInt] at t_20_0
        refine lv_aload_n hx hb dX8_load_59 rfl (lv_at hl 1 rfl) ?_
        refine lv_iconst (v := 0) hx hb dX8_load_60 (by decide) ?_
        refine va_put (D := D) (ci := 8) (v := .int 0) (ty := .int) (C := RX8) (T := TX8) (N := 31) hx hb hts iX8_load_X8 tyX8 tyX8_ok nmX8 hown hK hP hD hS 0 rfl rfl 23 (by decide) (hts (.fieldLink RX8 243 "TapeCalculatorModel" "textSize" "I") (List.mem_of_getElem? (i := 3) rfl)) (fun _ h9 => h9) rfl (by decide +kernel) rfl rfl (Nat.le_of_ble_eq_true rfl) dX8_load_61 (fun H locs hP hD hS => ?_)
        have hP : va_P D vwCl [(m0, .inr (8, [.ref mH, .int aM, .long aC, .int mM, .long mQ, .int oV, .int pL, .int lI, .int sW, .int dP, .int sT, .long aT, .int cH, .int iW, .ref mI, .ref mJ, .ref mS, .ref mD, .int iH, .int aE, .int mN, .long sZ, .ref mX, .int 0, .int av, .int wv, .ref mA, .ref mB, .ref mW, .ref mL, .int lS])), (mH, .inl (cI, 512, .inl fH)), (mX, .inl (cB, 2000, .inl fX)), (mA, .inl (cI, 200, .inl fAv)), (mB, .inl (cL, 200, .inr (.inl fBv))), (mW, .inl (cZ, 200, .inl fWv))] H := hP
        have hD : va_D A [(m0, .inr (8, [.ref mH, .int aM, .long aC, .int mM, .long mQ, .int oV, .int pL, .int lI, .int sW, .int dP, .int sT, .long aT, .int cH, .int iW, .ref mI, .ref mJ, .ref mS, .ref mD, .int iH, .int aE, .int mN, .long sZ, .ref mX, .int 0, .int av, .int wv, .ref mA, .ref mB, .ref mW, .ref mL, .int lS])), (mH, .inl (cI, 512, .inl fH)), (mX, .inl (cB, 2000, .inl fX)), (mA, .inl (cI, 200, .inl fAv)), (mB, .inl (cL, 200, .inr (.inl fBv))), (mW, .inl (cZ, 200, .inl fWv))] := hD
        refine lv_aload_n hx hb dX8_load_64 rfl (lv_at hl 1 rfl) ?_
        refine va_get (D := D) (ci := 8) (v := .int wv) (C := RX8) (T := TX8) (N := 31) hx hb hts iX8_load_X8 hown hK hP 0 rfl rfl 25 (by decide) (hts (.fieldLink RX8 259 "TapeCalculatorModel" "wrong" "I") (List.mem_of_getElem? (i := 2) rfl)) (fun _ h9 => h9) rfl dX8_load_65 ?_
        refine lv_if_lt (tgt := 79) hx hb dX8_load_68 (by decide) (fun c_68_1 => ?_) (fun c_68_1 => ?_)
        · have t_68_1 := c_68_1
          try simp only [kb_eq0, kb_ne0, lg_cmp_lt, lg_cmp_le, lg_cmp_gt, lg_cmp_ge, lg_cmp_eq] at t_68_1
          try simp only [Int32.lt_iff_toInt_lt, Int32.le_iff_toInt_le, ← Int32.toInt_inj, Int64.lt_iff_toInt_lt, Int64.le_iff_toInt_le, ← Int64.toInt_inj, Int32.toInt_toInt64, Int32.reduceToInt, Int64.reduceToInt] at t_68_1
          refine lv_iconst (v := 0) hx hb dX8_load_79 (by decide) ?_
          refine lv_istore_n (lv' := [(2, .int 0), (1, .int nv), (0, .ref m0)]) hx hb dX8_load_80 rfl hl (by decide) rfl (fun ls hl => ?_)
          have J81 : ∀ (k : Nat) (kv : Int32) (fHv : Nat → Int32), (nv.toInt - kv.toInt).toNat < k → 0 ≤ kv.toInt → ∀ (H : Heap) (locs : List Loc), va_P D vwCl [(m0, .inr (8, [.ref mH, .int aM, .long aC, .int mM, .long mQ, .int oV, .int pL, .int lI, .int sW, .int dP, .int sT, .long aT, .int cH, .int iW, .ref mI, .ref mJ, .ref mS, .ref mD, .int iH, .int aE, .int mN, .long sZ, .ref mX, .int 0, .int av, .int wv, .ref mA, .ref mB, .ref mW, .ref mL, .int lS])), (mH, .inl (cI, 512, .inl fHv)), (mX, .inl (cB, 2000, .inl fX)), (mA, .inl (cI, 200, .inl fAv)), (mB, .inl (cL, 200, .inr (.inl fBv))), (mW, .inl (cZ, 200, .inl fWv))] H → va_D A [(m0, .inr (8, [.ref mH, .int aM, .long aC, .int mM, .long mQ, .int oV, .int pL, .int lI, .int sW, .int dP, .int sT, .long aT, .int cH, .int iW, .ref mI, .ref mJ, .ref mS, .ref mD, .int iH, .int aE, .int mN, .long sZ, .ref mX, .int 0, .int av, .int wv, .ref mA, .ref mB, .ref mW, .ref mL, .int lS])), (mH, .inl (cI, 512, .inl fHv)), (mX, .inl (cB, 2000, .inl fX)), (mA, .inl (cI, 200, .inl fAv)), (mB, .inl (cL, 200, .inr (.inl fBv))), (mW, .inl (cZ, 200, .inl fWv))] → va_S A s.heap H locs → ∀ ls : Array Slot, lv_has ls 3 [(2, .int kv), (1, .int nv), (0, .ref m0)] → W p l e ({ frames := 4, cells := 0, slots := 0, locals := 98 }) s m args below meth c H locs 0 0 (MQ below (kQ (S := (Int32 × Int32 × (Nat → Int32) × (Nat → Int32) × (Nat → Int64) × (Nat → Int32))) eI (fun r u => r = kLd tS fX 200 0 0) D (fun u => [(m0, .inr (8, [.ref mH, .int aM, .long aC, .int mM, .long mQ, .int oV, .int pL, .int lI, .int sW, .int dP, .int sT, .long aT, .int cH, .int iW, .ref mI, .ref mJ, .ref mS, .ref mD, .int iH, .int aE, .int mN, .long sZ, .ref mX, .int 0, .int u.1, .int u.2.1, .ref mA, .ref mB, .ref mW, .ref mL, .int lS])), (mH, .inl (cI, 512, .inl u.2.2.1)), (mX, .inl (cB, 2000, .inl fX)), (mA, .inl (cI, 200, .inl u.2.2.2.1)), (mB, .inl (cL, 200, .inr (.inl u.2.2.2.2.1))), (mW, .inl (cZ, 200, .inl u.2.2.2.2.2))]) A) args s 0 0 A) (F0 m 81 ls []) := by
            intro k
            induction k with
            | zero =>
              intro kv fHv hm
              exact absurd hm (Nat.not_lt_zero _)
            | succ k ih =>
              intro kv fHv hm hkv H locs hP hD hS ls hl
              refine lv_iload_n hx hb dX8_load_81 rfl (lv_at hl 0 rfl) ?_
              refine lv_iload_n hx hb dX8_load_82 rfl (lv_at hl 1 rfl) ?_
              refine lv_icmp_ge (tgt := 138) hx hb dX8_load_83 (by decide) (fun c_83_2 => ?_) (fun c_83_2 => ?_)
              · have t_83_2 := c_83_2
                try simp only [kb_eq0, kb_ne0, lg_cmp_lt, lg_cmp_le, lg_cmp_gt, lg_cmp_ge, lg_cmp_eq] at t_83_2
                try simp only [Int32.lt_iff_toInt_lt, Int32.le_iff_toInt_le, ← Int32.toInt_inj, Int64.lt_iff_toInt_lt, Int64.le_iff_toInt_le, ← Int64.toInt_inj, Int32.toInt_toInt64, Int32.reduceToInt, Int64.reduceToInt] at t_83_2
                refine lv_iload_n hx hb dX8_load_138 rfl (lv_at hl 1 rfl) ?_
                refine kIret (u := (av, wv, fHv, fAv, fBv, fWv)) hx hb hr rfl hlocks hS dX8_load_139 ?_ (hP.sub [0, 1, 2, 3, 4, 5] rfl) (hD.sub [0, 1, 2, 3, 4, 5] (by decide) rfl)
                obtain ⟨g, g1, g2, g3⟩ := hk1 (by omega)
                exact (kLd_o (by omega)).symm.trans g3
              · have t_83_2 := c_83_2
                try simp only [kb_eq0, kb_ne0, lg_cmp_lt, lg_cmp_le, lg_cmp_gt, lg_cmp_ge, lg_cmp_eq] at t_83_2
                try simp only [Int32.lt_iff_toInt_lt, Int32.le_iff_toInt_le, ← Int32.toInt_inj, Int64.lt_iff_toInt_lt, Int64.le_iff_toInt_le, ← Int64.toInt_inj, Int32.toInt_toInt64, Int32.reduceToInt, Int64.reduceToInt] at t_83_2
                have hck := k_cl (k := kv) (by omega)
                have hlk := hla (by omega) kv.toNatClampNeg (by omega)
                have hlk1 := hlk.1
                refine lv_aload_n hx hb dX8_load_86 rfl (lv_at hl 2 rfl) ?_
                refine va_get (D := D) (ci := 8) (v := .ref mW) (C := RX8) (T := TX8) (N := 31) hx hb hts iX8_load_X8 hown hK hP 0 rfl rfl 28 (by decide) (hts (.fieldLink RX8 36 "TapeCalculatorModel" "lineWhole" "[Z") (List.mem_of_getElem? (i := 4) rfl)) (fun _ h9 => h9) rfl dX8_load_87 ?_
                refine lv_iload_n hx hb dX8_load_90 rfl (lv_at hl 0 rfl) ?_
                refine va_zald hx hb hK hP 5 3 rfl rfl (vp_in_iff.mpr (by omega)) dX8_load_91 ?_
                refine lv_if_eq (tgt := 114) hx hb dX8_load_92 (by decide) (fun c_92_3 => ?_) (fun c_92_3 => ?_)
                · have t_92_3 := c_92_3
                  try simp only [kb_eq0, kb_ne0, lg_cmp_lt, lg_cmp_le, lg_cmp_gt, lg_cmp_ge, lg_cmp_eq] at t_92_3
                  try simp only [Int32.lt_iff_toInt_lt, Int32.le_iff_toInt_le, ← Int32.toInt_inj, Int64.lt_iff_toInt_lt, Int64.le_iff_toInt_le, ← Int64.toInt_inj, Int32.toInt_toInt64, Int32.reduceToInt, Int64.reduceToInt] at t_92_3
                  refine lv_aload_n hx hb dX8_load_114 rfl (lv_at hl 2 rfl) ?_
                  refine va_get (D := D) (ci := 8) (v := .ref mH) (C := RX8) (T := TX8) (N := 31) hx hb hts iX8_load_X8 hown hK hP 0 rfl rfl 0 (by decide) (hts (.fieldLink RX8 7 "TapeCalculatorModel" "half" "[I") (List.mem_of_getElem? (i := 7) rfl)) (fun _ h9 => h9) rfl dX8_load_115 ?_
                  refine lv_aload_n hx hb dX8_load_118 rfl (lv_at hl 2 rfl) ?_
                  refine va_get (D := D) (ci := 8) (v := .ref mA) (C := RX8) (T := TX8) (N := 31) hx hb hts iX8_load_X8 hown hK hP 0 rfl rfl 26 (by decide) (hts (.fieldLink RX8 30 "TapeCalculatorModel" "lineAt" "[I") (List.mem_of_getElem? (i := 5) rfl)) (fun _ h9 => h9) rfl dX8_load_119 ?_
                  refine lv_iload_n hx hb dX8_load_122 rfl (lv_at hl 0 rfl) ?_
                  refine va_iald hx hb hK hP 3 0 rfl rfl (vp_in_iff.mpr (by omega)) dX8_load_123 ?_
                  refine lv_aload_n hx hb dX8_load_124 rfl (lv_at hl 2 rfl) ?_
                  refine va_get (D := D) (ci := 8) (v := .ref mB) (C := RX8) (T := TX8) (N := 31) hx hb hts iX8_load_X8 hown hK hP 0 rfl rfl 27 (by decide) (hts (.fieldLink RX8 33 "TapeCalculatorModel" "lineBits" "[J") (List.mem_of_getElem? (i := 6) rfl)) (fun _ h9 => h9) rfl dX8_load_125 ?_
                  refine lv_iload_n hx hb dX8_load_128 rfl (lv_at hl 0 rfl) ?_
                  refine va_lald hx hb hK hP 4 1 rfl rfl (vp_in_iff.mpr (by omega)) dX8_load_129 ?_
                  refine lv_l2i hx hb dX8_load_130 rfl ?_
                  refine va_iast hx hb hK hP hD hS 1 0 rfl rfl (vp_in_iff.mpr (by omega)) dX8_load_131 (fun H locs hP hD hS => ?_)
                  have hP : va_P D vwCl [(m0, .inr (8, [.ref mH, .int aM, .long aC, .int mM, .long mQ, .int oV, .int pL, .int lI, .int sW, .int dP, .int sT, .long aT, .int cH, .int iW, .ref mI, .ref mJ, .ref mS, .ref mD, .int iH, .int aE, .int mN, .long sZ, .ref mX, .int 0, .int av, .int wv, .ref mA, .ref mB, .ref mW, .ref mL, .int lS])), (mH, .inl (cI, 512, .inl (upd fHv (fAv kv.toNatClampNeg).toNatClampNeg (fBv kv.toNatClampNeg).toInt32))), (mX, .inl (cB, 2000, .inl fX)), (mA, .inl (cI, 200, .inl fAv)), (mB, .inl (cL, 200, .inr (.inl fBv))), (mW, .inl (cZ, 200, .inl fWv))] H := hP
                  have hD : va_D A [(m0, .inr (8, [.ref mH, .int aM, .long aC, .int mM, .long mQ, .int oV, .int pL, .int lI, .int sW, .int dP, .int sT, .long aT, .int cH, .int iW, .ref mI, .ref mJ, .ref mS, .ref mD, .int iH, .int aE, .int mN, .long sZ, .ref mX, .int 0, .int av, .int wv, .ref mA, .ref mB, .ref mW, .ref mL, .int lS])), (mH, .inl (cI, 512, .inl (upd fHv (fAv kv.toNatClampNeg).toNatClampNeg (fBv kv.toNatClampNeg).toInt32))), (mX, .inl (cB, 2000, .inl fX)), (mA, .inl (cI, 200, .inl fAv)), (mB, .inl (cL, 200, .inr (.inl fBv))), (mW, .inl (cZ, 200, .inl fWv))] := hD
                  obtain ⟨x_5, ex_5⟩ : ∃ y : Int32, y = kv + 1 := ⟨_, rfl⟩
                  refine lv_iinc (v := x_5) (lv' := [(2, .int x_5), (1, .int nv), (0, .ref m0)]) hx hb dX8_load_132 hl (k := 0) rfl (by rw [ex_5]; rfl) (by decide) rfl (fun ls hl => ?_)
                  refine lv_goto (tgt := 81) hx hb dX8_load_135 (by decide) ?_
                  have hz0 : (0 : Int32).toInt = 0 := by decide
                  have hd := k_inc (i := kv) (n := nv) (by omega)
                  rw [← ex_5] at hd
                  exact ih x_5 (upd fHv (fAv kv.toNatClampNeg).toNatClampNeg (fBv kv.toNatClampNeg).toInt32) (by omega) (by omega) _ _ (hP.sub [0, 1, 2, 3, 4, 5] rfl) (hD.sub [0, 1, 2, 3, 4, 5] (by decide) rfl) hS ls (lv_sub hl [0, 1, 2] rfl)
                · have t_92_3 := c_92_3
                  try simp only [kb_eq0, kb_ne0, lg_cmp_lt, lg_cmp_le, lg_cmp_gt, lg_cmp_ge, lg_cmp_eq] at t_92_3
                  try simp only [Int32.lt_iff_toInt_lt, Int32.le_iff_toInt_le, ← Int32.toInt_inj, Int64.lt_iff_toInt_lt, Int64.le_iff_toInt_le, ← Int64.toInt_inj, Int32.toInt_toInt64, Int32.reduceToInt, Int64.reduceToInt] at t_92_3
                  refine lv_aload_n hx hb dX8_load_95 rfl (lv_at hl 2 rfl) ?_
                  refine lv_aload_n hx hb dX8_load_96 rfl (lv_at hl 2 rfl) ?_
                  refine va_get (D := D) (ci := 8) (v := .ref mA) (C := RX8) (T := TX8) (N := 31) hx hb hts iX8_load_X8 hown hK hP 0 rfl rfl 26 (by decide) (hts (.fieldLink RX8 30 "TapeCalculatorModel" "lineAt" "[I") (List.mem_of_getElem? (i := 5) rfl)) (fun _ h9 => h9) rfl dX8_load_97 ?_
                  refine lv_iload_n hx hb dX8_load_100 rfl (lv_at hl 0 rfl) ?_
                  refine va_iald hx hb hK hP 3 0 rfl rfl (vp_in_iff.mpr (by omega)) dX8_load_101 ?_
                  refine lv_aload_n hx hb dX8_load_102 rfl (lv_at hl 2 rfl) ?_
                  refine va_get (D := D) (ci := 8) (v := .ref mB) (C := RX8) (T := TX8) (N := 31) hx hb hts iX8_load_X8 hown hK hP 0 rfl rfl 27 (by decide) (hts (.fieldLink RX8 33 "TapeCalculatorModel" "lineBits" "[J") (List.mem_of_getElem? (i := 6) rfl)) (fun _ h9 => h9) rfl dX8_load_103 ?_
                  refine lv_iload_n hx hb dX8_load_106 rfl (lv_at hl 0 rfl) ?_
                  refine va_lald hx hb hK hP 4 1 rfl rfl (vp_in_iff.mpr (by omega)) dX8_load_107 ?_
                  refine kCallVd (wr := [(mX, .inl (cB, 2000, .inl fX)), (mA, .inl (cI, 200, .inl fAv)), (mB, .inl (cL, 200, .inr (.inl fBv))), (mW, .inl (cZ, 200, .inl fWv))]) (va_runV (As := [.int (fAv kv.toNatClampNeg), .long (fBv kv.toNatClampNeg)]) (rest := []) ⟨hx, hb, hml, hown, hts⟩ (q_putWhole l D cI cL cB cZ cT _ m0 mH mI mJ mS mD mX mA mB mW mL aM aC mM mQ oV pL lI sW dP sT aT cH iW iH aE mN sZ 0 av wv lS fHv (fAv kv.toNatClampNeg) (fBv kv.toNatClampNeg) (vp_in_iff.mpr (by omega)) (hlk.2.resolve_left c_92_3)) (cwV 2 hts gX8_load_X8_putWhole rfl rfl rfl (by decide +kernel) ⟨Nat.le_of_ble_eq_true rfl, Nat.le_of_ble_eq_true rfl⟩) (kPreV hG hP hD [0, 1] rfl (by decide) 0 8 rfl rfl rfl) rfl rfl hl.1 rfl (lv_room (Nat.le_of_ble_eq_true rfl)) dX8_load_108 ⟨Nat.le_of_ble_eq_true rfl, Nat.le_of_ble_eq_true rfl⟩) hA hP hD hS [0, 1] [2, 3, 4, 5] rfl rfl (by decide) (by decide) (fun _ u_r_6 H locs wr_6 hP hD hS => ?_)
                  have hP : va_P D vwCl [(mX, .inl (cB, 2000, .inl fX)), (mA, .inl (cI, 200, .inl fAv)), (mB, .inl (cL, 200, .inr (.inl fBv))), (mW, .inl (cZ, 200, .inl fWv)), (m0, .inr (8, [.ref mH, .int aM, .long aC, .int mM, .long mQ, .int oV, .int pL, .int lI, .int sW, .int dP, .int sT, .long aT, .int cH, .int iW, .ref mI, .ref mJ, .ref mS, .ref mD, .int iH, .int aE, .int mN, .long sZ, .ref mX, .int 0, .int av, .int wv, .ref mA, .ref mB, .ref mW, .ref mL, .int lS])), (mH, .inl (cI, 512, .inl u_r_6))] H := hP
                  have hD : va_D A [(mX, .inl (cB, 2000, .inl fX)), (mA, .inl (cI, 200, .inl fAv)), (mB, .inl (cL, 200, .inr (.inl fBv))), (mW, .inl (cZ, 200, .inl fWv)), (m0, .inr (8, [.ref mH, .int aM, .long aC, .int mM, .long mQ, .int oV, .int pL, .int lI, .int sW, .int dP, .int sT, .long aT, .int cH, .int iW, .ref mI, .ref mJ, .ref mS, .ref mD, .int iH, .int aE, .int mN, .long sZ, .ref mX, .int 0, .int av, .int wv, .ref mA, .ref mB, .ref mW, .ref mL, .int lS])), (mH, .inl (cI, 512, .inl u_r_6))] := hD
                  try dsimp only at wr_6
                  try simp only [Int32.reduceToInt, Int64.reduceToInt] at wr_6
                  refine lv_goto (tgt := 132) hx hb dX8_load_111 (by decide) ?_
                  obtain ⟨x_7, ex_7⟩ : ∃ y : Int32, y = kv + 1 := ⟨_, rfl⟩
                  refine lv_iinc (v := x_7) (lv' := [(2, .int x_7), (1, .int nv), (0, .ref m0)]) hx hb dX8_load_132 hl (k := 0) rfl (by rw [ex_7]; rfl) (by decide) rfl (fun ls hl => ?_)
                  refine lv_goto (tgt := 81) hx hb dX8_load_135 (by decide) ?_
                  have hz0 : (0 : Int32).toInt = 0 := by decide
                  have hd := k_inc (i := kv) (n := nv) (by omega)
                  rw [← ex_7] at hd
                  exact ih x_7 u_r_6 (by omega) (by omega) _ _ (hP.sub [4, 5, 0, 1, 2, 3] rfl) (hD.sub [4, 5, 0, 1, 2, 3] (by decide) rfl) hS ls (lv_sub hl [0, 1, 2] rfl)
          have hz0 : (0 : Int32).toInt = 0 := by decide
          exact J81 _ 0 fH (Nat.lt_succ_self _) (by omega) _ _ (hP.sub [0, 1, 2, 3, 4, 5] rfl) (hD.sub [0, 1, 2, 3, 4, 5] (by decide) rfl) hS ls (lv_sub hl [0, 1, 2] rfl)
        · have t_68_1 := c_68_1
          try simp only [kb_eq0, kb_ne0, lg_cmp_lt, lg_cmp_le, lg_cmp_gt, lg_cmp_ge, lg_cmp_eq] at t_68_1
          try simp only [Int32.lt_iff_toInt_lt, Int32.le_iff_toInt_le, ← Int32.toInt_inj, Int64.lt_iff_toInt_lt, Int64.le_iff_toInt_le, ← Int64.toInt_inj, Int32.toInt_toInt64, Int32.reduceToInt, Int64.reduceToInt] at t_68_1
          refine lv_bipush (v := (-10)) hx hb dX8_load_71 (by decide) ?_
          refine lv_aload_n hx hb dX8_load_73 rfl (lv_at hl 1 rfl) ?_
          refine va_get (D := D) (ci := 8) (v := .int wv) (C := RX8) (T := TX8) (N := 31) hx hb hts iX8_load_X8 hown hK hP 0 rfl rfl 25 (by decide) (hts (.fieldLink RX8 259 "TapeCalculatorModel" "wrong" "I") (List.mem_of_getElem? (i := 2) rfl)) (fun _ h9 => h9) rfl dX8_load_74 ?_
          refine lv_isub hx hb dX8_load_77 ?_
          refine kIret (u := (av, wv, fH, fAv, fBv, fWv)) hx hb hr rfl hlocks hS dX8_load_78 ?_ (hP.sub [0, 1, 2, 3, 4, 5] rfl) (hD.sub [0, 1, 2, 3, 4, 5] (by decide) rfl)
          exact hk2 (by omega)
      · have t_20_0 := c_20_0
        try simp only [kb_eq0, kb_ne0, lg_cmp_lt, lg_cmp_le, lg_cmp_gt, lg_cmp_ge, lg_cmp_eq] at t_20_0
        try simp only [Int32.lt_iff_toInt_lt, Int32.le_iff_toInt_le, ← Int32.toInt_inj, Int64.lt_iff_toInt_lt, Int64.le_iff_toInt_le, ← Int64.toInt_inj, Int32.toInt_toInt64, Int32.reduceToInt, Int64.reduceToInt] at t_20_0
        refine lv_aload_n hx hb dX8_load_23 rfl (lv_at hl 1 rfl) ?_
        refine va_get (D := D) (ci := 8) (v := .int wv) (C := RX8) (T := TX8) (N := 31) hx hb hts iX8_load_X8 hown hK hP 0 rfl rfl 25 (by decide) (hts (.fieldLink RX8 259 "TapeCalculatorModel" "wrong" "I") (List.mem_of_getElem? (i := 2) rfl)) (fun _ h9 => h9) rfl dX8_load_24 ?_
        refine lv_if_ge (tgt := 59) hx hb dX8_load_27 (by decide) (fun c_27_7 => ?_) (fun c_27_7 => ?_)
        · have t_27_7 := c_27_7
          try simp only [kb_eq0, kb_ne0, lg_cmp_lt, lg_cmp_le, lg_cmp_gt, lg_cmp_ge, lg_cmp_eq] at t_27_7
          try simp only [Int32.lt_iff_toInt_lt, Int32.le_iff_toInt_le, ← Int32.toInt_inj, Int64.lt_iff_toInt_lt, Int64.le_iff_toInt_le, ← Int64.toInt_inj, Int32.toInt_toInt64, Int32.reduceToInt, Int64.reduceToInt] at t_27_7
          refine lv_aload_n hx hb dX8_load_59 rfl (lv_at hl 1 rfl) ?_
          refine lv_iconst (v := 0) hx hb dX8_load_60 (by decide) ?_
          refine va_put (D := D) (ci := 8) (v := .int 0) (ty := .int) (C := RX8) (T := TX8) (N := 31) hx hb hts iX8_load_X8 tyX8 tyX8_ok nmX8 hown hK hP hD hS 0 rfl rfl 23 (by decide) (hts (.fieldLink RX8 243 "TapeCalculatorModel" "textSize" "I") (List.mem_of_getElem? (i := 3) rfl)) (fun _ h9 => h9) rfl (by decide +kernel) rfl rfl (Nat.le_of_ble_eq_true rfl) dX8_load_61 (fun H locs hP hD hS => ?_)
          have hP : va_P D vwCl [(m0, .inr (8, [.ref mH, .int aM, .long aC, .int mM, .long mQ, .int oV, .int pL, .int lI, .int sW, .int dP, .int sT, .long aT, .int cH, .int iW, .ref mI, .ref mJ, .ref mS, .ref mD, .int iH, .int aE, .int mN, .long sZ, .ref mX, .int 0, .int av, .int wv, .ref mA, .ref mB, .ref mW, .ref mL, .int lS])), (mH, .inl (cI, 512, .inl fH)), (mX, .inl (cB, 2000, .inl fX)), (mA, .inl (cI, 200, .inl fAv)), (mB, .inl (cL, 200, .inr (.inl fBv))), (mW, .inl (cZ, 200, .inl fWv))] H := hP
          have hD : va_D A [(m0, .inr (8, [.ref mH, .int aM, .long aC, .int mM, .long mQ, .int oV, .int pL, .int lI, .int sW, .int dP, .int sT, .long aT, .int cH, .int iW, .ref mI, .ref mJ, .ref mS, .ref mD, .int iH, .int aE, .int mN, .long sZ, .ref mX, .int 0, .int av, .int wv, .ref mA, .ref mB, .ref mW, .ref mL, .int lS])), (mH, .inl (cI, 512, .inl fH)), (mX, .inl (cB, 2000, .inl fX)), (mA, .inl (cI, 200, .inl fAv)), (mB, .inl (cL, 200, .inr (.inl fBv))), (mW, .inl (cZ, 200, .inl fWv))] := hD
          refine lv_aload_n hx hb dX8_load_64 rfl (lv_at hl 1 rfl) ?_
          refine va_get (D := D) (ci := 8) (v := .int wv) (C := RX8) (T := TX8) (N := 31) hx hb hts iX8_load_X8 hown hK hP 0 rfl rfl 25 (by decide) (hts (.fieldLink RX8 259 "TapeCalculatorModel" "wrong" "I") (List.mem_of_getElem? (i := 2) rfl)) (fun _ h9 => h9) rfl dX8_load_65 ?_
          refine lv_if_lt (tgt := 79) hx hb dX8_load_68 (by decide) (fun c_68_8 => ?_) (fun c_68_8 => ?_)
          · have t_68_8 := c_68_8
            try simp only [kb_eq0, kb_ne0, lg_cmp_lt, lg_cmp_le, lg_cmp_gt, lg_cmp_ge, lg_cmp_eq] at t_68_8
            try simp only [Int32.lt_iff_toInt_lt, Int32.le_iff_toInt_le, ← Int32.toInt_inj, Int64.lt_iff_toInt_lt, Int64.le_iff_toInt_le, ← Int64.toInt_inj, Int32.toInt_toInt64, Int32.reduceToInt, Int64.reduceToInt] at t_68_8
            refine lv_iconst (v := 0) hx hb dX8_load_79 (by decide) ?_
            refine lv_istore_n (lv' := [(2, .int 0), (1, .int nv), (0, .ref m0)]) hx hb dX8_load_80 rfl hl (by decide) rfl (fun ls hl => ?_)
            have J81 : ∀ (k : Nat) (kv : Int32) (fHv : Nat → Int32), (nv.toInt - kv.toInt).toNat < k → 0 ≤ kv.toInt → ∀ (H : Heap) (locs : List Loc), va_P D vwCl [(m0, .inr (8, [.ref mH, .int aM, .long aC, .int mM, .long mQ, .int oV, .int pL, .int lI, .int sW, .int dP, .int sT, .long aT, .int cH, .int iW, .ref mI, .ref mJ, .ref mS, .ref mD, .int iH, .int aE, .int mN, .long sZ, .ref mX, .int 0, .int av, .int wv, .ref mA, .ref mB, .ref mW, .ref mL, .int lS])), (mH, .inl (cI, 512, .inl fHv)), (mX, .inl (cB, 2000, .inl fX)), (mA, .inl (cI, 200, .inl fAv)), (mB, .inl (cL, 200, .inr (.inl fBv))), (mW, .inl (cZ, 200, .inl fWv))] H → va_D A [(m0, .inr (8, [.ref mH, .int aM, .long aC, .int mM, .long mQ, .int oV, .int pL, .int lI, .int sW, .int dP, .int sT, .long aT, .int cH, .int iW, .ref mI, .ref mJ, .ref mS, .ref mD, .int iH, .int aE, .int mN, .long sZ, .ref mX, .int 0, .int av, .int wv, .ref mA, .ref mB, .ref mW, .ref mL, .int lS])), (mH, .inl (cI, 512, .inl fHv)), (mX, .inl (cB, 2000, .inl fX)), (mA, .inl (cI, 200, .inl fAv)), (mB, .inl (cL, 200, .inr (.inl fBv))), (mW, .inl (cZ, 200, .inl fWv))] → va_S A s.heap H locs → ∀ ls : Array Slot, lv_has ls 3 [(2, .int kv), (1, .int nv), (0, .ref m0)] → W p l e ({ frames := 4, cells := 0, slots := 0, locals := 98 }) s m args below meth c H locs 0 0 (MQ below (kQ (S := (Int32 × Int32 × (Nat → Int32) × (Nat → Int32) × (Nat → Int64) × (Nat → Int32))) eI (fun r u => r = kLd tS fX 200 0 0) D (fun u => [(m0, .inr (8, [.ref mH, .int aM, .long aC, .int mM, .long mQ, .int oV, .int pL, .int lI, .int sW, .int dP, .int sT, .long aT, .int cH, .int iW, .ref mI, .ref mJ, .ref mS, .ref mD, .int iH, .int aE, .int mN, .long sZ, .ref mX, .int 0, .int u.1, .int u.2.1, .ref mA, .ref mB, .ref mW, .ref mL, .int lS])), (mH, .inl (cI, 512, .inl u.2.2.1)), (mX, .inl (cB, 2000, .inl fX)), (mA, .inl (cI, 200, .inl u.2.2.2.1)), (mB, .inl (cL, 200, .inr (.inl u.2.2.2.2.1))), (mW, .inl (cZ, 200, .inl u.2.2.2.2.2))]) A) args s 0 0 A) (F0 m 81 ls []) := by
              intro k
              induction k with
              | zero =>
                intro kv fHv hm
                exact absurd hm (Nat.not_lt_zero _)
              | succ k ih =>
                intro kv fHv hm hkv H locs hP hD hS ls hl
                refine lv_iload_n hx hb dX8_load_81 rfl (lv_at hl 0 rfl) ?_
                refine lv_iload_n hx hb dX8_load_82 rfl (lv_at hl 1 rfl) ?_
                refine lv_icmp_ge (tgt := 138) hx hb dX8_load_83 (by decide) (fun c_83_9 => ?_) (fun c_83_9 => ?_)
                · have t_83_9 := c_83_9
                  try simp only [kb_eq0, kb_ne0, lg_cmp_lt, lg_cmp_le, lg_cmp_gt, lg_cmp_ge, lg_cmp_eq] at t_83_9
                  try simp only [Int32.lt_iff_toInt_lt, Int32.le_iff_toInt_le, ← Int32.toInt_inj, Int64.lt_iff_toInt_lt, Int64.le_iff_toInt_le, ← Int64.toInt_inj, Int32.toInt_toInt64, Int32.reduceToInt, Int64.reduceToInt] at t_83_9
                  refine lv_iload_n hx hb dX8_load_138 rfl (lv_at hl 1 rfl) ?_
                  refine kIret (u := (av, wv, fHv, fAv, fBv, fWv)) hx hb hr rfl hlocks hS dX8_load_139 ?_ (hP.sub [0, 1, 2, 3, 4, 5] rfl) (hD.sub [0, 1, 2, 3, 4, 5] (by decide) rfl)
                  obtain ⟨g, g1, g2, g3⟩ := hk1 (by omega)
                  exact (kLd_o (by omega)).symm.trans g3
                · have t_83_9 := c_83_9
                  try simp only [kb_eq0, kb_ne0, lg_cmp_lt, lg_cmp_le, lg_cmp_gt, lg_cmp_ge, lg_cmp_eq] at t_83_9
                  try simp only [Int32.lt_iff_toInt_lt, Int32.le_iff_toInt_le, ← Int32.toInt_inj, Int64.lt_iff_toInt_lt, Int64.le_iff_toInt_le, ← Int64.toInt_inj, Int32.toInt_toInt64, Int32.reduceToInt, Int64.reduceToInt] at t_83_9
                  have hck := k_cl (k := kv) (by omega)
                  have hlk := hla (by omega) kv.toNatClampNeg (by omega)
                  have hlk1 := hlk.1
                  refine lv_aload_n hx hb dX8_load_86 rfl (lv_at hl 2 rfl) ?_
                  refine va_get (D := D) (ci := 8) (v := .ref mW) (C := RX8) (T := TX8) (N := 31) hx hb hts iX8_load_X8 hown hK hP 0 rfl rfl 28 (by decide) (hts (.fieldLink RX8 36 "TapeCalculatorModel" "lineWhole" "[Z") (List.mem_of_getElem? (i := 4) rfl)) (fun _ h9 => h9) rfl dX8_load_87 ?_
                  refine lv_iload_n hx hb dX8_load_90 rfl (lv_at hl 0 rfl) ?_
                  refine va_zald hx hb hK hP 5 3 rfl rfl (vp_in_iff.mpr (by omega)) dX8_load_91 ?_
                  refine lv_if_eq (tgt := 114) hx hb dX8_load_92 (by decide) (fun c_92_10 => ?_) (fun c_92_10 => ?_)
                  · have t_92_10 := c_92_10
                    try simp only [kb_eq0, kb_ne0, lg_cmp_lt, lg_cmp_le, lg_cmp_gt, lg_cmp_ge, lg_cmp_eq] at t_92_10
                    try simp only [Int32.lt_iff_toInt_lt, Int32.le_iff_toInt_le, ← Int32.toInt_inj, Int64.lt_iff_toInt_lt, Int64.le_iff_toInt_le, ← Int64.toInt_inj, Int32.toInt_toInt64, Int32.reduceToInt, Int64.reduceToInt] at t_92_10
                    refine lv_aload_n hx hb dX8_load_114 rfl (lv_at hl 2 rfl) ?_
                    refine va_get (D := D) (ci := 8) (v := .ref mH) (C := RX8) (T := TX8) (N := 31) hx hb hts iX8_load_X8 hown hK hP 0 rfl rfl 0 (by decide) (hts (.fieldLink RX8 7 "TapeCalculatorModel" "half" "[I") (List.mem_of_getElem? (i := 7) rfl)) (fun _ h9 => h9) rfl dX8_load_115 ?_
                    refine lv_aload_n hx hb dX8_load_118 rfl (lv_at hl 2 rfl) ?_
                    refine va_get (D := D) (ci := 8) (v := .ref mA) (C := RX8) (T := TX8) (N := 31) hx hb hts iX8_load_X8 hown hK hP 0 rfl rfl 26 (by decide) (hts (.fieldLink RX8 30 "TapeCalculatorModel" "lineAt" "[I") (List.mem_of_getElem? (i := 5) rfl)) (fun _ h9 => h9) rfl dX8_load_119 ?_
                    refine lv_iload_n hx hb dX8_load_122 rfl (lv_at hl 0 rfl) ?_
                    refine va_iald hx hb hK hP 3 0 rfl rfl (vp_in_iff.mpr (by omega)) dX8_load_123 ?_
                    refine lv_aload_n hx hb dX8_load_124 rfl (lv_at hl 2 rfl) ?_
                    refine va_get (D := D) (ci := 8) (v := .ref mB) (C := RX8) (T := TX8) (N := 31) hx hb hts iX8_load_X8 hown hK hP 0 rfl rfl 27 (by decide) (hts (.fieldLink RX8 33 "TapeCalculatorModel" "lineBits" "[J") (List.mem_of_getElem? (i := 6) rfl)) (fun _ h9 => h9) rfl dX8_load_125 ?_
                    refine lv_iload_n hx hb dX8_load_128 rfl (lv_at hl 0 rfl) ?_
                    refine va_lald hx hb hK hP 4 1 rfl rfl (vp_in_iff.mpr (by omega)) dX8_load_129 ?_
                    refine lv_l2i hx hb dX8_load_130 rfl ?_
                    refine va_iast hx hb hK hP hD hS 1 0 rfl rfl (vp_in_iff.mpr (by omega)) dX8_load_131 (fun H locs hP hD hS => ?_)
                    have hP : va_P D vwCl [(m0, .inr (8, [.ref mH, .int aM, .long aC, .int mM, .long mQ, .int oV, .int pL, .int lI, .int sW, .int dP, .int sT, .long aT, .int cH, .int iW, .ref mI, .ref mJ, .ref mS, .ref mD, .int iH, .int aE, .int mN, .long sZ, .ref mX, .int 0, .int av, .int wv, .ref mA, .ref mB, .ref mW, .ref mL, .int lS])), (mH, .inl (cI, 512, .inl (upd fHv (fAv kv.toNatClampNeg).toNatClampNeg (fBv kv.toNatClampNeg).toInt32))), (mX, .inl (cB, 2000, .inl fX)), (mA, .inl (cI, 200, .inl fAv)), (mB, .inl (cL, 200, .inr (.inl fBv))), (mW, .inl (cZ, 200, .inl fWv))] H := hP
                    have hD : va_D A [(m0, .inr (8, [.ref mH, .int aM, .long aC, .int mM, .long mQ, .int oV, .int pL, .int lI, .int sW, .int dP, .int sT, .long aT, .int cH, .int iW, .ref mI, .ref mJ, .ref mS, .ref mD, .int iH, .int aE, .int mN, .long sZ, .ref mX, .int 0, .int av, .int wv, .ref mA, .ref mB, .ref mW, .ref mL, .int lS])), (mH, .inl (cI, 512, .inl (upd fHv (fAv kv.toNatClampNeg).toNatClampNeg (fBv kv.toNatClampNeg).toInt32))), (mX, .inl (cB, 2000, .inl fX)), (mA, .inl (cI, 200, .inl fAv)), (mB, .inl (cL, 200, .inr (.inl fBv))), (mW, .inl (cZ, 200, .inl fWv))] := hD
                    obtain ⟨x_12, ex_12⟩ : ∃ y : Int32, y = kv + 1 := ⟨_, rfl⟩
                    refine lv_iinc (v := x_12) (lv' := [(2, .int x_12), (1, .int nv), (0, .ref m0)]) hx hb dX8_load_132 hl (k := 0) rfl (by rw [ex_12]; rfl) (by decide) rfl (fun ls hl => ?_)
                    refine lv_goto (tgt := 81) hx hb dX8_load_135 (by decide) ?_
                    have hz0 : (0 : Int32).toInt = 0 := by decide
                    have hd := k_inc (i := kv) (n := nv) (by omega)
                    rw [← ex_12] at hd
                    exact ih x_12 (upd fHv (fAv kv.toNatClampNeg).toNatClampNeg (fBv kv.toNatClampNeg).toInt32) (by omega) (by omega) _ _ (hP.sub [0, 1, 2, 3, 4, 5] rfl) (hD.sub [0, 1, 2, 3, 4, 5] (by decide) rfl) hS ls (lv_sub hl [0, 1, 2] rfl)
                  · have t_92_10 := c_92_10
                    try simp only [kb_eq0, kb_ne0, lg_cmp_lt, lg_cmp_le, lg_cmp_gt, lg_cmp_ge, lg_cmp_eq] at t_92_10
                    try simp only [Int32.lt_iff_toInt_lt, Int32.le_iff_toInt_le, ← Int32.toInt_inj, Int64.lt_iff_toInt_lt, Int64.le_iff_toInt_le, ← Int64.toInt_inj, Int32.toInt_toInt64, Int32.reduceToInt, Int64.reduceToInt] at t_92_10
                    refine lv_aload_n hx hb dX8_load_95 rfl (lv_at hl 2 rfl) ?_
                    refine lv_aload_n hx hb dX8_load_96 rfl (lv_at hl 2 rfl) ?_
                    refine va_get (D := D) (ci := 8) (v := .ref mA) (C := RX8) (T := TX8) (N := 31) hx hb hts iX8_load_X8 hown hK hP 0 rfl rfl 26 (by decide) (hts (.fieldLink RX8 30 "TapeCalculatorModel" "lineAt" "[I") (List.mem_of_getElem? (i := 5) rfl)) (fun _ h9 => h9) rfl dX8_load_97 ?_
                    refine lv_iload_n hx hb dX8_load_100 rfl (lv_at hl 0 rfl) ?_
                    refine va_iald hx hb hK hP 3 0 rfl rfl (vp_in_iff.mpr (by omega)) dX8_load_101 ?_
                    refine lv_aload_n hx hb dX8_load_102 rfl (lv_at hl 2 rfl) ?_
                    refine va_get (D := D) (ci := 8) (v := .ref mB) (C := RX8) (T := TX8) (N := 31) hx hb hts iX8_load_X8 hown hK hP 0 rfl rfl 27 (by decide) (hts (.fieldLink RX8 33 "TapeCalculatorModel" "lineBits" "[J") (List.mem_of_getElem? (i := 6) rfl)) (fun _ h9 => h9) rfl dX8_load_103 ?_
                    refine lv_iload_n hx hb dX8_load_106 rfl (lv_at hl 0 rfl) ?_
                    refine va_lald hx hb hK hP 4 1 rfl rfl (vp_in_iff.mpr (by omega)) dX8_load_107 ?_
                    refine kCallVd (wr := [(mX, .inl (cB, 2000, .inl fX)), (mA, .inl (cI, 200, .inl fAv)), (mB, .inl (cL, 200, .inr (.inl fBv))), (mW, .inl (cZ, 200, .inl fWv))]) (va_runV (As := [.int (fAv kv.toNatClampNeg), .long (fBv kv.toNatClampNeg)]) (rest := []) ⟨hx, hb, hml, hown, hts⟩ (q_putWhole l D cI cL cB cZ cT _ m0 mH mI mJ mS mD mX mA mB mW mL aM aC mM mQ oV pL lI sW dP sT aT cH iW iH aE mN sZ 0 av wv lS fHv (fAv kv.toNatClampNeg) (fBv kv.toNatClampNeg) (vp_in_iff.mpr (by omega)) (hlk.2.resolve_left c_92_10)) (cwV 2 hts gX8_load_X8_putWhole rfl rfl rfl (by decide +kernel) ⟨Nat.le_of_ble_eq_true rfl, Nat.le_of_ble_eq_true rfl⟩) (kPreV hG hP hD [0, 1] rfl (by decide) 0 8 rfl rfl rfl) rfl rfl hl.1 rfl (lv_room (Nat.le_of_ble_eq_true rfl)) dX8_load_108 ⟨Nat.le_of_ble_eq_true rfl, Nat.le_of_ble_eq_true rfl⟩) hA hP hD hS [0, 1] [2, 3, 4, 5] rfl rfl (by decide) (by decide) (fun _ u_r_13 H locs wr_13 hP hD hS => ?_)
                    have hP : va_P D vwCl [(mX, .inl (cB, 2000, .inl fX)), (mA, .inl (cI, 200, .inl fAv)), (mB, .inl (cL, 200, .inr (.inl fBv))), (mW, .inl (cZ, 200, .inl fWv)), (m0, .inr (8, [.ref mH, .int aM, .long aC, .int mM, .long mQ, .int oV, .int pL, .int lI, .int sW, .int dP, .int sT, .long aT, .int cH, .int iW, .ref mI, .ref mJ, .ref mS, .ref mD, .int iH, .int aE, .int mN, .long sZ, .ref mX, .int 0, .int av, .int wv, .ref mA, .ref mB, .ref mW, .ref mL, .int lS])), (mH, .inl (cI, 512, .inl u_r_13))] H := hP
                    have hD : va_D A [(mX, .inl (cB, 2000, .inl fX)), (mA, .inl (cI, 200, .inl fAv)), (mB, .inl (cL, 200, .inr (.inl fBv))), (mW, .inl (cZ, 200, .inl fWv)), (m0, .inr (8, [.ref mH, .int aM, .long aC, .int mM, .long mQ, .int oV, .int pL, .int lI, .int sW, .int dP, .int sT, .long aT, .int cH, .int iW, .ref mI, .ref mJ, .ref mS, .ref mD, .int iH, .int aE, .int mN, .long sZ, .ref mX, .int 0, .int av, .int wv, .ref mA, .ref mB, .ref mW, .ref mL, .int lS])), (mH, .inl (cI, 512, .inl u_r_13))] := hD
                    try dsimp only at wr_13
                    try simp only [Int32.reduceToInt, Int64.reduceToInt] at wr_13
                    refine lv_goto (tgt := 132) hx hb dX8_load_111 (by decide) ?_
                    obtain ⟨x_14, ex_14⟩ : ∃ y : Int32, y = kv + 1 := ⟨_, rfl⟩
                    refine lv_iinc (v := x_14) (lv' := [(2, .int x_14), (1, .int nv), (0, .ref m0)]) hx hb dX8_load_132 hl (k := 0) rfl (by rw [ex_14]; rfl) (by decide) rfl (fun ls hl => ?_)
                    refine lv_goto (tgt := 81) hx hb dX8_load_135 (by decide) ?_
                    have hz0 : (0 : Int32).toInt = 0 := by decide
                    have hd := k_inc (i := kv) (n := nv) (by omega)
                    rw [← ex_14] at hd
                    exact ih x_14 u_r_13 (by omega) (by omega) _ _ (hP.sub [4, 5, 0, 1, 2, 3] rfl) (hD.sub [4, 5, 0, 1, 2, 3] (by decide) rfl) hS ls (lv_sub hl [0, 1, 2] rfl)
            have hz0 : (0 : Int32).toInt = 0 := by decide
            exact J81 _ 0 fH (Nat.lt_succ_self _) (by omega) _ _ (hP.sub [0, 1, 2, 3, 4, 5] rfl) (hD.sub [0, 1, 2, 3, 4, 5] (by decide) rfl) hS ls (lv_sub hl [0, 1, 2] rfl)
          · have t_68_8 := c_68_8
            try simp only [kb_eq0, kb_ne0, lg_cmp_lt, lg_cmp_le, lg_cmp_gt, lg_cmp_ge, lg_cmp_eq] at t_68_8
            try simp only [Int32.lt_iff_toInt_lt, Int32.le_iff_toInt_le, ← Int32.toInt_inj, Int64.lt_iff_toInt_lt, Int64.le_iff_toInt_le, ← Int64.toInt_inj, Int32.toInt_toInt64, Int32.reduceToInt, Int64.reduceToInt] at t_68_8
            refine lv_bipush (v := (-10)) hx hb dX8_load_71 (by decide) ?_
            refine lv_aload_n hx hb dX8_load_73 rfl (lv_at hl 1 rfl) ?_
            refine va_get (D := D) (ci := 8) (v := .int wv) (C := RX8) (T := TX8) (N := 31) hx hb hts iX8_load_X8 hown hK hP 0 rfl rfl 25 (by decide) (hts (.fieldLink RX8 259 "TapeCalculatorModel" "wrong" "I") (List.mem_of_getElem? (i := 2) rfl)) (fun _ h9 => h9) rfl dX8_load_74 ?_
            refine lv_isub hx hb dX8_load_77 ?_
            refine kIret (u := (av, wv, fH, fAv, fBv, fWv)) hx hb hr rfl hlocks hS dX8_load_78 ?_ (hP.sub [0, 1, 2, 3, 4, 5] rfl) (hD.sub [0, 1, 2, 3, 4, 5] (by decide) rfl)
            exact hk2 (by omega)
        · have t_27_7 := c_27_7
          try simp only [kb_eq0, kb_ne0, lg_cmp_lt, lg_cmp_le, lg_cmp_gt, lg_cmp_ge, lg_cmp_eq] at t_27_7
          try simp only [Int32.lt_iff_toInt_lt, Int32.le_iff_toInt_le, ← Int32.toInt_inj, Int64.lt_iff_toInt_lt, Int64.le_iff_toInt_le, ← Int64.toInt_inj, Int32.toInt_toInt64, Int32.reduceToInt, Int64.reduceToInt] at t_27_7
          refine lv_iload_n hx hb dX8_load_30 rfl (lv_at hl 0 rfl) ?_
          refine lv_sipush (v := 200) hx hb dX8_load_31 (by decide) ?_
          refine lv_icmp_ne (tgt := 48) hx hb dX8_load_34 (by decide) (fun c_34_14 => ?_) (fun c_34_14 => ?_)
          · have t_34_14 := c_34_14
            try simp only [kb_eq0, kb_ne0, lg_cmp_lt, lg_cmp_le, lg_cmp_gt, lg_cmp_ge, lg_cmp_eq] at t_34_14
            try simp only [Int32.lt_iff_toInt_lt, Int32.le_iff_toInt_le, ← Int32.toInt_inj, Int64.lt_iff_toInt_lt, Int64.le_iff_toInt_le, ← Int64.toInt_inj, Int32.toInt_toInt64, Int32.reduceToInt, Int64.reduceToInt] at t_34_14
            refine lv_aload_n hx hb dX8_load_48 rfl (lv_at hl 1 rfl) ?_
            refine lv_iload_n hx hb dX8_load_49 rfl (lv_at hl 0 rfl) ?_
            refine kCallVd (wr := [(mH, .inl (cI, 512, .inl fH))]) (va_runV (As := [.int nv]) (rest := []) ⟨hx, hb, hml, hown, hts⟩ (q_readLine l D cI cL cB cZ cT _ m0 mH mI mJ mS mD mX mA mB mW mL aM aC mM mQ oV pL lI sW dP sT aT cH iW iH aE mN sZ tS av wv lS fX fAv fBv fWv nv (by omega) (by omega) (by omega) (by omega)) (cwV 1 hts gX8_load_X8_readLine rfl rfl rfl (by decide +kernel) ⟨Nat.le_of_ble_eq_true rfl, Nat.le_of_ble_eq_true rfl⟩) (kPreV hG hP hD [0, 2, 3, 4, 5] rfl (by decide) 0 8 rfl rfl rfl) rfl rfl hl.1 rfl (lv_room (Nat.le_of_ble_eq_true rfl)) dX8_load_50 ⟨Nat.le_of_ble_eq_true rfl, Nat.le_of_ble_eq_true rfl⟩) hA hP hD hS [0, 2, 3, 4, 5] [1] rfl rfl (by decide) (by decide) (fun _ u_r_16 H locs wr_16 hP hD hS => ?_)
            have hP : va_P D vwCl [(mH, .inl (cI, 512, .inl fH)), (m0, .inr (8, [.ref mH, .int aM, .long aC, .int mM, .long mQ, .int oV, .int pL, .int lI, .int sW, .int dP, .int sT, .long aT, .int cH, .int iW, .ref mI, .ref mJ, .ref mS, .ref mD, .int iH, .int aE, .int mN, .long sZ, .ref mX, .int tS, .int u_r_16.1, .int u_r_16.2.1, .ref mA, .ref mB, .ref mW, .ref mL, .int lS])), (mX, .inl (cB, 2000, .inl fX)), (mA, .inl (cI, 200, .inl u_r_16.2.2.1)), (mB, .inl (cL, 200, .inr (.inl u_r_16.2.2.2.1))), (mW, .inl (cZ, 200, .inl u_r_16.2.2.2.2))] H := hP
            have hD : va_D A [(mH, .inl (cI, 512, .inl fH)), (m0, .inr (8, [.ref mH, .int aM, .long aC, .int mM, .long mQ, .int oV, .int pL, .int lI, .int sW, .int dP, .int sT, .long aT, .int cH, .int iW, .ref mI, .ref mJ, .ref mS, .ref mD, .int iH, .int aE, .int mN, .long sZ, .ref mX, .int tS, .int u_r_16.1, .int u_r_16.2.1, .ref mA, .ref mB, .ref mW, .ref mL, .int lS])), (mX, .inl (cB, 2000, .inl fX)), (mA, .inl (cI, 200, .inl u_r_16.2.2.1)), (mB, .inl (cL, 200, .inr (.inl u_r_16.2.2.2.1))), (mW, .inl (cZ, 200, .inl u_r_16.2.2.2.2))] := hD
            try dsimp only at wr_16
            try simp only [Int32.reduceToInt, Int64.reduceToInt] at wr_16
            obtain ⟨wr_16_0, wr_16_1, wr_16_2, wr_16_3, wr_16_4⟩ := wr_16
            obtain ⟨x_17, ex_17⟩ : ∃ y : Int32, y = nv + 1 := ⟨_, rfl⟩
            refine lv_iinc (v := x_17) (lv' := [(1, .int x_17), (0, .ref m0)]) hx hb dX8_load_53 hl (k := 0) rfl (by rw [ex_17]; rfl) (by decide) rfl (fun ls hl => ?_)
            refine lv_goto (tgt := 12) hx hb dX8_load_56 (by decide) ?_
            have hz0 : (0 : Int32).toInt = 0 := by decide
            have hz1 : (-1 : Int32).toInt = -1 := rfl
            have hd := k_inc (i := nv) (n := 200) (by simp only [Int32.reduceToInt]; omega)
            have hok := wr_16_0
            rw [← ex_17] at hd
            exact ih x_17 u_r_16.1 u_r_16.2.1 u_r_16.2.2.1 u_r_16.2.2.2.1 u_r_16.2.2.2.2 (by omega) (by have h7 := wr_16_1; omega) (by have h7 := wr_16_4; omega) (fun h9 j hj => by rcases Int.lt_or_eq_of_le (show (j : Int) ≤ nv.toInt by omega) with h7 | h7; (rw [(wr_16_2 j (by have h6 := k_cl (k := nv) (by omega); omega)).1, (wr_16_2 j (by have h6 := k_cl (k := nv) (by omega); omega)).2]; exact hla (by omega) j h7); (obtain rfl : j = nv.toNatClampNeg := by have h6 := k_cl (k := nv) (by omega); omega); exact wr_16_3.resolve_left (by omega)) (fun h9 => by obtain ⟨g, g1, g2, g3⟩ := hk1 (by omega); exact kRest_mk (g + 1) (by omega) (by omega) (by rw [show 200 - g = (200 - (g + 1)) + 1 by omega, kLd_s (t := tS) (f := fX) (a := av) (by omega) (by rw [← hok.1]; exact h9), ← hok.2 h9, ← ex_17] at g3; exact g3)) (fun h9 => by obtain ⟨g, g1, g2, g3⟩ := hk1 (by omega); rw [← g3, show 200 - g = (200 - (g + 1)) + 1 by omega, hok.1]; exact (kLd_w (by omega) (by rw [← hok.1]; omega)).symm) _ _ (hP.sub [1, 0, 2, 3, 4, 5] rfl) (hD.sub [1, 0, 2, 3, 4, 5] (by decide) rfl) hS ls (lv_sub hl [0, 1] rfl)
          · have t_34_14 := c_34_14
            try simp only [kb_eq0, kb_ne0, lg_cmp_lt, lg_cmp_le, lg_cmp_gt, lg_cmp_ge, lg_cmp_eq] at t_34_14
            try simp only [Int32.lt_iff_toInt_lt, Int32.le_iff_toInt_le, ← Int32.toInt_inj, Int64.lt_iff_toInt_lt, Int64.le_iff_toInt_le, ← Int64.toInt_inj, Int32.toInt_toInt64, Int32.reduceToInt, Int64.reduceToInt] at t_34_14
            refine lv_aload_n hx hb dX8_load_37 rfl (lv_at hl 1 rfl) ?_
            refine lv_aload_n hx hb dX8_load_38 rfl (lv_at hl 1 rfl) ?_
            refine va_get (D := D) (ci := 8) (v := .int av) (C := RX8) (T := TX8) (N := 31) hx hb hts iX8_load_X8 hown hK hP 0 rfl rfl 24 (by decide) (hts (.fieldLink RX8 246 "TapeCalculatorModel" "at" "I") (List.mem_of_getElem? (i := 1) rfl)) (fun _ h9 => h9) rfl dX8_load_39 ?_
            refine va_put (D := D) (ci := 8) (v := .int av) (ty := .int) (C := RX8) (T := TX8) (N := 31) hx hb hts iX8_load_X8 tyX8 tyX8_ok nmX8 hown hK hP hD hS 0 rfl rfl 25 (by decide) (hts (.fieldLink RX8 259 "TapeCalculatorModel" "wrong" "I") (List.mem_of_getElem? (i := 2) rfl)) (fun _ h9 => h9) rfl (by decide +kernel) rfl rfl (Nat.le_of_ble_eq_true rfl) dX8_load_42 (fun H locs hP hD hS => ?_)
            have hP : va_P D vwCl [(m0, .inr (8, [.ref mH, .int aM, .long aC, .int mM, .long mQ, .int oV, .int pL, .int lI, .int sW, .int dP, .int sT, .long aT, .int cH, .int iW, .ref mI, .ref mJ, .ref mS, .ref mD, .int iH, .int aE, .int mN, .long sZ, .ref mX, .int tS, .int av, .int av, .ref mA, .ref mB, .ref mW, .ref mL, .int lS])), (mH, .inl (cI, 512, .inl fH)), (mX, .inl (cB, 2000, .inl fX)), (mA, .inl (cI, 200, .inl fAv)), (mB, .inl (cL, 200, .inr (.inl fBv))), (mW, .inl (cZ, 200, .inl fWv))] H := hP
            have hD : va_D A [(m0, .inr (8, [.ref mH, .int aM, .long aC, .int mM, .long mQ, .int oV, .int pL, .int lI, .int sW, .int dP, .int sT, .long aT, .int cH, .int iW, .ref mI, .ref mJ, .ref mS, .ref mD, .int iH, .int aE, .int mN, .long sZ, .ref mX, .int tS, .int av, .int av, .ref mA, .ref mB, .ref mW, .ref mL, .int lS])), (mH, .inl (cI, 512, .inl fH)), (mX, .inl (cB, 2000, .inl fX)), (mA, .inl (cI, 200, .inl fAv)), (mB, .inl (cL, 200, .inr (.inl fBv))), (mW, .inl (cZ, 200, .inl fWv))] := hD
            refine lv_goto (tgt := 12) hx hb dX8_load_45 (by decide) ?_
            refine lv_aload_n hx hb dX8_load_12 rfl (lv_at hl 1 rfl) ?_
            refine va_get (D := D) (ci := 8) (v := .int av) (C := RX8) (T := TX8) (N := 31) hx hb hts iX8_load_X8 hown hK hP 0 rfl rfl 24 (by decide) (hts (.fieldLink RX8 246 "TapeCalculatorModel" "at" "I") (List.mem_of_getElem? (i := 1) rfl)) (fun _ h9 => h9) rfl dX8_load_13 ?_
            refine lv_aload_n hx hb dX8_load_16 rfl (lv_at hl 1 rfl) ?_
            refine va_get (D := D) (ci := 8) (v := .int tS) (C := RX8) (T := TX8) (N := 31) hx hb hts iX8_load_X8 hown hK hP 0 rfl rfl 23 (by decide) (hts (.fieldLink RX8 243 "TapeCalculatorModel" "textSize" "I") (List.mem_of_getElem? (i := 3) rfl)) (fun _ h9 => h9) rfl dX8_load_17 ?_
            refine lv_icmp_ge (tgt := 59) hx hb dX8_load_20 (by decide) (fun c_20_17 => ?_) (fun c_20_17 => ?_)
            · have t_20_17 := c_20_17
              try simp only [kb_eq0, kb_ne0, lg_cmp_lt, lg_cmp_le, lg_cmp_gt, lg_cmp_ge, lg_cmp_eq] at t_20_17
              try simp only [Int32.lt_iff_toInt_lt, Int32.le_iff_toInt_le, ← Int32.toInt_inj, Int64.lt_iff_toInt_lt, Int64.le_iff_toInt_le, ← Int64.toInt_inj, Int32.toInt_toInt64, Int32.reduceToInt, Int64.reduceToInt] at t_20_17
              omega
            · have t_20_17 := c_20_17
              try simp only [kb_eq0, kb_ne0, lg_cmp_lt, lg_cmp_le, lg_cmp_gt, lg_cmp_ge, lg_cmp_eq] at t_20_17
              try simp only [Int32.lt_iff_toInt_lt, Int32.le_iff_toInt_le, ← Int32.toInt_inj, Int64.lt_iff_toInt_lt, Int64.le_iff_toInt_le, ← Int64.toInt_inj, Int32.toInt_toInt64, Int32.reduceToInt, Int64.reduceToInt] at t_20_17
              refine lv_aload_n hx hb dX8_load_23 rfl (lv_at hl 1 rfl) ?_
              refine va_get (D := D) (ci := 8) (v := .int av) (C := RX8) (T := TX8) (N := 31) hx hb hts iX8_load_X8 hown hK hP 0 rfl rfl 25 (by decide) (hts (.fieldLink RX8 259 "TapeCalculatorModel" "wrong" "I") (List.mem_of_getElem? (i := 2) rfl)) (fun _ h9 => h9) rfl dX8_load_24 ?_
              refine lv_if_ge (tgt := 59) hx hb dX8_load_27 (by decide) (fun c_27_18 => ?_) (fun c_27_18 => ?_)
              · have t_27_18 := c_27_18
                try simp only [kb_eq0, kb_ne0, lg_cmp_lt, lg_cmp_le, lg_cmp_gt, lg_cmp_ge, lg_cmp_eq] at t_27_18
                try simp only [Int32.lt_iff_toInt_lt, Int32.le_iff_toInt_le, ← Int32.toInt_inj, Int64.lt_iff_toInt_lt, Int64.le_iff_toInt_le, ← Int64.toInt_inj, Int32.toInt_toInt64, Int32.reduceToInt, Int64.reduceToInt] at t_27_18
                refine lv_aload_n hx hb dX8_load_59 rfl (lv_at hl 1 rfl) ?_
                refine lv_iconst (v := 0) hx hb dX8_load_60 (by decide) ?_
                refine va_put (D := D) (ci := 8) (v := .int 0) (ty := .int) (C := RX8) (T := TX8) (N := 31) hx hb hts iX8_load_X8 tyX8 tyX8_ok nmX8 hown hK hP hD hS 0 rfl rfl 23 (by decide) (hts (.fieldLink RX8 243 "TapeCalculatorModel" "textSize" "I") (List.mem_of_getElem? (i := 3) rfl)) (fun _ h9 => h9) rfl (by decide +kernel) rfl rfl (Nat.le_of_ble_eq_true rfl) dX8_load_61 (fun H locs hP hD hS => ?_)
                have hP : va_P D vwCl [(m0, .inr (8, [.ref mH, .int aM, .long aC, .int mM, .long mQ, .int oV, .int pL, .int lI, .int sW, .int dP, .int sT, .long aT, .int cH, .int iW, .ref mI, .ref mJ, .ref mS, .ref mD, .int iH, .int aE, .int mN, .long sZ, .ref mX, .int 0, .int av, .int av, .ref mA, .ref mB, .ref mW, .ref mL, .int lS])), (mH, .inl (cI, 512, .inl fH)), (mX, .inl (cB, 2000, .inl fX)), (mA, .inl (cI, 200, .inl fAv)), (mB, .inl (cL, 200, .inr (.inl fBv))), (mW, .inl (cZ, 200, .inl fWv))] H := hP
                have hD : va_D A [(m0, .inr (8, [.ref mH, .int aM, .long aC, .int mM, .long mQ, .int oV, .int pL, .int lI, .int sW, .int dP, .int sT, .long aT, .int cH, .int iW, .ref mI, .ref mJ, .ref mS, .ref mD, .int iH, .int aE, .int mN, .long sZ, .ref mX, .int 0, .int av, .int av, .ref mA, .ref mB, .ref mW, .ref mL, .int lS])), (mH, .inl (cI, 512, .inl fH)), (mX, .inl (cB, 2000, .inl fX)), (mA, .inl (cI, 200, .inl fAv)), (mB, .inl (cL, 200, .inr (.inl fBv))), (mW, .inl (cZ, 200, .inl fWv))] := hD
                refine lv_aload_n hx hb dX8_load_64 rfl (lv_at hl 1 rfl) ?_
                refine va_get (D := D) (ci := 8) (v := .int av) (C := RX8) (T := TX8) (N := 31) hx hb hts iX8_load_X8 hown hK hP 0 rfl rfl 25 (by decide) (hts (.fieldLink RX8 259 "TapeCalculatorModel" "wrong" "I") (List.mem_of_getElem? (i := 2) rfl)) (fun _ h9 => h9) rfl dX8_load_65 ?_
                refine lv_if_lt (tgt := 79) hx hb dX8_load_68 (by decide) (fun c_68_19 => ?_) (fun c_68_19 => ?_)
                · have t_68_19 := c_68_19
                  try simp only [kb_eq0, kb_ne0, lg_cmp_lt, lg_cmp_le, lg_cmp_gt, lg_cmp_ge, lg_cmp_eq] at t_68_19
                  try simp only [Int32.lt_iff_toInt_lt, Int32.le_iff_toInt_le, ← Int32.toInt_inj, Int64.lt_iff_toInt_lt, Int64.le_iff_toInt_le, ← Int64.toInt_inj, Int32.toInt_toInt64, Int32.reduceToInt, Int64.reduceToInt] at t_68_19
                  omega
                · have t_68_19 := c_68_19
                  try simp only [kb_eq0, kb_ne0, lg_cmp_lt, lg_cmp_le, lg_cmp_gt, lg_cmp_ge, lg_cmp_eq] at t_68_19
                  try simp only [Int32.lt_iff_toInt_lt, Int32.le_iff_toInt_le, ← Int32.toInt_inj, Int64.lt_iff_toInt_lt, Int64.le_iff_toInt_le, ← Int64.toInt_inj, Int32.toInt_toInt64, Int32.reduceToInt, Int64.reduceToInt] at t_68_19
                  refine lv_bipush (v := (-10)) hx hb dX8_load_71 (by decide) ?_
                  refine lv_aload_n hx hb dX8_load_73 rfl (lv_at hl 1 rfl) ?_
                  refine va_get (D := D) (ci := 8) (v := .int av) (C := RX8) (T := TX8) (N := 31) hx hb hts iX8_load_X8 hown hK hP 0 rfl rfl 25 (by decide) (hts (.fieldLink RX8 259 "TapeCalculatorModel" "wrong" "I") (List.mem_of_getElem? (i := 2) rfl)) (fun _ h9 => h9) rfl dX8_load_74 ?_
                  refine lv_isub hx hb dX8_load_77 ?_
                  refine kIret (u := (av, av, fH, fAv, fBv, fWv)) hx hb hr rfl hlocks hS dX8_load_78 ?_ (hP.sub [0, 1, 2, 3, 4, 5] rfl) (hD.sub [0, 1, 2, 3, 4, 5] (by decide) rfl)
                  obtain ⟨g, g1, g2, g3⟩ := hk1 (by omega)
                  rw [← g3, show 200 - g = 0 by omega]
                  exact (kLd_z (by omega)).symm
              · have t_27_18 := c_27_18
                try simp only [kb_eq0, kb_ne0, lg_cmp_lt, lg_cmp_le, lg_cmp_gt, lg_cmp_ge, lg_cmp_eq] at t_27_18
                try simp only [Int32.lt_iff_toInt_lt, Int32.le_iff_toInt_le, ← Int32.toInt_inj, Int64.lt_iff_toInt_lt, Int64.le_iff_toInt_le, ← Int64.toInt_inj, Int32.toInt_toInt64, Int32.reduceToInt, Int64.reduceToInt] at t_27_18
                omega
  have hz0 : (0 : Int32).toInt = 0 := by decide
  have hz1 : (-1 : Int32).toInt = -1 := rfl
  exact J12 _ 0 0 (-1) fA fB fW (Nat.lt_succ_self _) (by omega) (by omega) (fun _ j hj => absurd hj (by omega)) (fun _ => kRest_mk 0 (by omega) (by omega) rfl) (fun h9 => absurd h9 (by omega)) _ _ (hP.sub [0, 1, 2, 3, 4, 5] rfl) (hD.sub [0, 1, 2, 3, 4, 5] (by decide) rfl) hS ls (lv_sub hl [0, 1] rfl)
