set_option maxRecDepth 100000 in
theorem iX8_endsRecord_X8 : ∀ w ∈ wsX80, w ∈ wsX8_endsRecord := fun w h => (goodIn_r (big := wsX8_endsRecord) wsX80 [12, 13, 14, 15, 16, 17, 18, 19, 20, 21, 22, 23, 24, 25, 26, 27, 28, 29, 30, 31, 32, 33, 34, 35, 36, 37, 38, 39, 40, 41, 42] rfl (by decide +kernel) w h).1
set_option maxRecDepth 100000 in
set_option maxHeartbeats 4000000 in
theorem q_endsRecord (l : Launch) (D : va_G) (cI cL cB cZ cT : ClassId) (sz : Nat) (m0 mH mI mJ mS mD mX mA mB mW mL : Nat) (aM : Int32) (aC : Int64) (mM : Int32) (mQ : Int64) (oV pL lI sW dP sT : Int32) (aT : Int64) (cH iW iH aE mN : Int32) (sZ : Int64) (tS tA tW lS : Int32) (fI : Nat → Int64) (j0 j1 j2 j3 : Int32) (s0 s1 s2 s3 : Int32) (ht0 : jT_ s0 j0) (ht1 : jT_ s1 j1) (ht2 : jT_ s2 j2) (ht3 : jT_ s3 j3) (hiw : jW_ iW cH) : kM (S := (Int32 × (Nat → Int64) × Int32 × Int32 × Int32 × Int32 × Int32 × Int32 × Int32 × Int32)) l yX8_endsRecord wsX8_endsRecord ({ frames := 1, cells := 0, slots := 0, locals := 23 }) D (kT cI cL cB cZ cT) [.ref m0] [(m0, .inr (8, [.ref mH, .int aM, .long aC, .int mM, .long mQ, .int oV, .int pL, .int lI, .int sW, .int dP, .int sT, .long aT, .int cH, .int iW, .ref mI, .ref mJ, .ref mS, .ref mD, .int iH, .int aE, .int mN, .long sZ, .ref mX, .int tS, .int tA, .int tW, .ref mA, .ref mB, .ref mW, .ref mL, .int lS])), (mI, .inl (cL, 1200, .inr (.inl fI))), (mJ, .inl (cI, 4, .inl (k4i j0 j1 j2 j3))), (mS, .inl (cI, 4, .inl (k4i s0 s1 s2 s3)))] sz eI (fun r u => (r.toInt = 0 ∨ r.toInt = 1) ∧ (r.toInt = 0 ∨ ((u.1)).toInt = 0) ∧ jW_ (u.1) cH ∧ jT_ (u.2.2.2.2.2.2.1) (u.2.2.1) ∧ jT_ (u.2.2.2.2.2.2.2.1) (u.2.2.2.1) ∧ jT_ (u.2.2.2.2.2.2.2.2.1) (u.2.2.2.2.1) ∧ jT_ (u.2.2.2.2.2.2.2.2.2) (u.2.2.2.2.2.1)) (fun u => [(m0, .inr (8, [.ref mH, .int aM, .long aC, .int mM, .long mQ, .int oV, .int pL, .int lI, .int sW, .int dP, .int sT, .long aT, .int cH, .int u.1, .ref mI, .ref mJ, .ref mS, .ref mD, .int iH, .int aE, .int mN, .long sZ, .ref mX, .int tS, .int tA, .int tW, .ref mA, .ref mB, .ref mW, .ref mL, .int lS])), (mI, .inl (cL, 1200, .inr (.inl u.2.1))), (mJ, .inl (cI, 4, .inl (k4i u.2.2.1 u.2.2.2.1 u.2.2.2.2.1 u.2.2.2.2.2.1))), (mS, .inl (cI, 4, .inl (k4i u.2.2.2.2.2.2.1 u.2.2.2.2.2.2.2.1 u.2.2.2.2.2.2.2.2.1 u.2.2.2.2.2.2.2.2.2)))]) 0 0 := by
  refine kStart (cc := cX8_endsRecord) (maxL := 1) (ret := (some .boolean)) (own := RX8) (by decide) rfl rfl (Nat.le_of_ble_eq_true rfl) ?_
  intro p e s m args below meth c A ls hx hb hr hml hown hts hlocks hnm hsz hA hG hP hD hS hl
  have hK := hG.1
  have hl : lv_has ls 1 [(0, .ref m0)] := hl
  have hiw0 : iW.toInt = 0 ∨ (iW.toInt = 1 ∧ 9 ≤ cH.toInt ∧ cH.toInt ≤ 12) := hiw
  have hc9 : 9 ≤ cH.toInt → cH.toInt ≤ 12 → (cH - 9).toInt = cH.toInt - 9 := fun a b => by have h9 := k_sub (a := cH) (b := 9) (by omega) (by decide); simp only [Int32.reduceToInt] at h9; exact h9
  refine lv_aload_n hx hb dX8_endsRecord_0 rfl (lv_at hl 0 rfl) ?_
  refine va_get (D := D) (ci := 8) (v := .int iW) (C := RX8) (T := TX8) (N := 31) hx hb hts iX8_endsRecord_X8 hown hK hP 0 rfl rfl 13 (by decide) (hts (.fieldLink RX8 115 "TapeCalculatorModel" "isWritten" "Z") (List.mem_of_getElem? (i := 1) rfl)) (fun _ h9 => h9) rfl dX8_endsRecord_1 ?_
  refine lv_if_ne (tgt := 9) hx hb dX8_endsRecord_4 (by decide) (fun c_4_0 => ?_) (fun c_4_0 => ?_)
  · have t_4_0 := c_4_0
    try simp only [kb_eq0, kb_ne0, lg_cmp_lt, lg_cmp_le, lg_cmp_gt, lg_cmp_ge, lg_cmp_eq] at t_4_0
    try simp only [Int32.lt_iff_toInt_lt, Int32.le_iff_toInt_le, ← Int32.toInt_inj, Int64.lt_iff_toInt_lt, Int64.le_iff_toInt_le, ← Int64.toInt_inj, Int32.toInt_toInt64, Int32.reduceToInt, Int64.reduceToInt] at t_4_0
    refine lv_aload_n hx hb dX8_endsRecord_9 rfl (lv_at hl 0 rfl) ?_
    refine lv_aload_n hx hb dX8_endsRecord_10 rfl (lv_at hl 0 rfl) ?_
    refine va_get (D := D) (ci := 8) (v := .int cH) (C := RX8) (T := TX8) (N := 31) hx hb hts iX8_endsRecord_X8 hown hK hP 0 rfl rfl 12 (by decide) (hts (.fieldLink RX8 43 "TapeCalculatorModel" "chosen" "I") (List.mem_of_getElem? (i := 2) rfl)) (fun _ h9 => h9) rfl dX8_endsRecord_11 ?_
    refine lv_bipush (v := 9) hx hb dX8_endsRecord_14 (by decide) ?_
    refine lv_isub hx hb dX8_endsRecord_16 ?_
    refine lv_ldc2 (v := (-2)) hx hb hown (hts (.constantLong RX8 111 (-2)) (List.mem_of_getElem? (i := 3) rfl)) dX8_endsRecord_17 ?_
    refine kCallI (wr := []) (va_runV (As := [.int (cH - 9), .long (-2)]) (rest := []) ⟨hx, hb, hml, hown, hts⟩ (q_puts l D cI cL cB cZ cT _ m0 mH mI mJ mS mD mX mA mB mW mL aM aC mM mQ oV pL lI sW dP sT aT cH iW iH aE mN sZ tS tA tW lS fI j0 j1 j2 j3 s0 s1 s2 s3 (cH - 9) (-2) (by first | with_reducible assumption | ((try simp only [jT_, jP_, jD_, jC_, jB_, jW_, Int32.reduceToInt, Int64.reduceToInt, true_or, or_true, true_and, and_true]) <;> omega)) (by first | with_reducible assumption | ((try simp only [jT_, jP_, jD_, jC_, jB_, jW_, Int32.reduceToInt, Int64.reduceToInt, true_or, or_true, true_and, and_true]) <;> omega)) (by first | with_reducible assumption | ((try simp only [jT_, jP_, jD_, jC_, jB_, jW_, Int32.reduceToInt, Int64.reduceToInt, true_or, or_true, true_and, and_true]) <;> omega)) (by first | with_reducible assumption | ((try simp only [jT_, jP_, jD_, jC_, jB_, jW_, Int32.reduceToInt, Int64.reduceToInt, true_or, or_true, true_and, and_true]) <;> omega)) (by have h9 := hc9 (by omega) (by omega); omega)) (cwV 2 hts gX8_endsRecord_X8_puts rfl rfl rfl (by decide +kernel) ⟨Nat.le_of_ble_eq_true rfl, Nat.le_of_ble_eq_true rfl⟩) (kPreV hG hP hD [0, 1, 2, 3] rfl (by decide) 0 8 rfl rfl rfl) rfl rfl hl.1 rfl (lv_room (Nat.le_of_ble_eq_true rfl)) dX8_endsRecord_20 ⟨Nat.le_of_ble_eq_true rfl, Nat.le_of_ble_eq_true rfl⟩) hA hP hD hS [0, 1, 2, 3] [] rfl rfl (by decide) (by decide) (fun r_2 u_r_2 H locs wr_2 hP hD hS => ?_)
    have hP : va_P D vwCl [(m0, .inr (8, [.ref mH, .int aM, .long aC, .int mM, .long mQ, .int oV, .int pL, .int lI, .int sW, .int dP, .int sT, .long aT, .int cH, .int iW, .ref mI, .ref mJ, .ref mS, .ref mD, .int iH, .int aE, .int mN, .long sZ, .ref mX, .int tS, .int tA, .int tW, .ref mA, .ref mB, .ref mW, .ref mL, .int lS])), (mI, .inl (cL, 1200, .inr (.inl u_r_2.1))), (mJ, .inl (cI, 4, .inl (k4i u_r_2.2.1 u_r_2.2.2.1 u_r_2.2.2.2.1 u_r_2.2.2.2.2.1))), (mS, .inl (cI, 4, .inl (k4i u_r_2.2.2.2.2.2.1 u_r_2.2.2.2.2.2.2.1 u_r_2.2.2.2.2.2.2.2.1 u_r_2.2.2.2.2.2.2.2.2)))] H := hP
    have hD : va_D A [(m0, .inr (8, [.ref mH, .int aM, .long aC, .int mM, .long mQ, .int oV, .int pL, .int lI, .int sW, .int dP, .int sT, .long aT, .int cH, .int iW, .ref mI, .ref mJ, .ref mS, .ref mD, .int iH, .int aE, .int mN, .long sZ, .ref mX, .int tS, .int tA, .int tW, .ref mA, .ref mB, .ref mW, .ref mL, .int lS])), (mI, .inl (cL, 1200, .inr (.inl u_r_2.1))), (mJ, .inl (cI, 4, .inl (k4i u_r_2.2.1 u_r_2.2.2.1 u_r_2.2.2.2.1 u_r_2.2.2.2.2.1))), (mS, .inl (cI, 4, .inl (k4i u_r_2.2.2.2.2.2.1 u_r_2.2.2.2.2.2.2.1 u_r_2.2.2.2.2.2.2.2.1 u_r_2.2.2.2.2.2.2.2.2)))] := hD
    try dsimp only at wr_2
    try simp only [Int32.reduceToInt, Int64.reduceToInt] at wr_2
    obtain ⟨wr_2_0, wr_2_1, wr_2_2, wr_2_3, wr_2_4⟩ := wr_2
    refine lv_if_ne (tgt := 28) hx hb dX8_endsRecord_23 (by decide) (fun c_23_2 => ?_) (fun c_23_2 => ?_)
    · have t_23_2 := c_23_2
      try simp only [kb_eq0, kb_ne0, lg_cmp_lt, lg_cmp_le, lg_cmp_gt, lg_cmp_ge, lg_cmp_eq] at t_23_2
      try simp only [Int32.lt_iff_toInt_lt, Int32.le_iff_toInt_le, ← Int32.toInt_inj, Int64.lt_iff_toInt_lt, Int64.le_iff_toInt_le, ← Int64.toInt_inj, Int32.toInt_toInt64, Int32.reduceToInt, Int64.reduceToInt] at t_23_2
      refine lv_aload_n hx hb dX8_endsRecord_28 rfl (lv_at hl 0 rfl) ?_
      refine lv_iconst (v := 0) hx hb dX8_endsRecord_29 (by decide) ?_
      refine va_put (D := D) (ci := 8) (v := .int 0) (ty := .boolean) (C := RX8) (T := TX8) (N := 31) hx hb hts iX8_endsRecord_X8 tyX8 tyX8_ok nmX8 hown hK hP hD hS 0 rfl rfl 13 (by decide) (hts (.fieldLink RX8 115 "TapeCalculatorModel" "isWritten" "Z") (List.mem_of_getElem? (i := 1) rfl)) (fun _ h9 => h9) rfl (by decide +kernel) rfl rfl (Nat.le_of_ble_eq_true rfl) dX8_endsRecord_30 (fun H locs hP hD hS => ?_)
      have hP : va_P D vwCl [(m0, .inr (8, [.ref mH, .int aM, .long aC, .int mM, .long mQ, .int oV, .int pL, .int lI, .int sW, .int dP, .int sT, .long aT, .int cH, .int 0, .ref mI, .ref mJ, .ref mS, .ref mD, .int iH, .int aE, .int mN, .long sZ, .ref mX, .int tS, .int tA, .int tW, .ref mA, .ref mB, .ref mW, .ref mL, .int lS])), (mI, .inl (cL, 1200, .inr (.inl u_r_2.1))), (mJ, .inl (cI, 4, .inl (k4i u_r_2.2.1 u_r_2.2.2.1 u_r_2.2.2.2.1 u_r_2.2.2.2.2.1))), (mS, .inl (cI, 4, .inl (k4i u_r_2.2.2.2.2.2.1 u_r_2.2.2.2.2.2.2.1 u_r_2.2.2.2.2.2.2.2.1 u_r_2.2.2.2.2.2.2.2.2)))] H := hP
      have hD : va_D A [(m0, .inr (8, [.ref mH, .int aM, .long aC, .int mM, .long mQ, .int oV, .int pL, .int lI, .int sW, .int dP, .int sT, .long aT, .int cH, .int 0, .ref mI, .ref mJ, .ref mS, .ref mD, .int iH, .int aE, .int mN, .long sZ, .ref mX, .int tS, .int tA, .int tW, .ref mA, .ref mB, .ref mW, .ref mL, .int lS])), (mI, .inl (cL, 1200, .inr (.inl u_r_2.1))), (mJ, .inl (cI, 4, .inl (k4i u_r_2.2.1 u_r_2.2.2.1 u_r_2.2.2.2.1 u_r_2.2.2.2.2.1))), (mS, .inl (cI, 4, .inl (k4i u_r_2.2.2.2.2.2.1 u_r_2.2.2.2.2.2.2.1 u_r_2.2.2.2.2.2.2.2.1 u_r_2.2.2.2.2.2.2.2.2)))] := hD
      refine lv_iconst (v := 1) hx hb dX8_endsRecord_33 (by decide) ?_
      refine kIret (u := (0, u_r_2.1, u_r_2.2.1, u_r_2.2.2.1, u_r_2.2.2.2.1, u_r_2.2.2.2.2.1, u_r_2.2.2.2.2.2.1, u_r_2.2.2.2.2.2.2.1, u_r_2.2.2.2.2.2.2.2.1, u_r_2.2.2.2.2.2.2.2.2)) hx hb hr rfl hlocks hS dX8_endsRecord_34 ?_ (hP.sub [0, 1, 2, 3] rfl) (hD.sub [0, 1, 2, 3] (by decide) rfl)
      try dsimp only
      repeat' (with_reducible apply And.intro)
      all_goals first | with_reducible assumption | ((try simp only [jT_, jP_, jD_, jC_, jB_, jW_, Int32.reduceToInt, Int64.reduceToInt, true_or, or_true, true_and, and_true]) <;> omega)
    · have t_23_2 := c_23_2
      try simp only [kb_eq0, kb_ne0, lg_cmp_lt, lg_cmp_le, lg_cmp_gt, lg_cmp_ge, lg_cmp_eq] at t_23_2
      try simp only [Int32.lt_iff_toInt_lt, Int32.le_iff_toInt_le, ← Int32.toInt_inj, Int64.lt_iff_toInt_lt, Int64.le_iff_toInt_le, ← Int64.toInt_inj, Int32.toInt_toInt64, Int32.reduceToInt, Int64.reduceToInt] at t_23_2
      refine lv_iconst (v := 0) hx hb dX8_endsRecord_26 (by decide) ?_
      refine kIret (u := (iW, u_r_2.1, u_r_2.2.1, u_r_2.2.2.1, u_r_2.2.2.2.1, u_r_2.2.2.2.2.1, u_r_2.2.2.2.2.2.1, u_r_2.2.2.2.2.2.2.1, u_r_2.2.2.2.2.2.2.2.1, u_r_2.2.2.2.2.2.2.2.2)) hx hb hr rfl hlocks hS dX8_endsRecord_27 ?_ (hP.sub [0, 1, 2, 3] rfl) (hD.sub [0, 1, 2, 3] (by decide) rfl)
      try dsimp only
      repeat' (with_reducible apply And.intro)
      all_goals first | with_reducible assumption | ((try simp only [jT_, jP_, jD_, jC_, jB_, jW_, Int32.reduceToInt, Int64.reduceToInt, true_or, or_true, true_and, and_true]) <;> omega)
  · have t_4_0 := c_4_0
    try simp only [kb_eq0, kb_ne0, lg_cmp_lt, lg_cmp_le, lg_cmp_gt, lg_cmp_ge, lg_cmp_eq] at t_4_0
    try simp only [Int32.lt_iff_toInt_lt, Int32.le_iff_toInt_le, ← Int32.toInt_inj, Int64.lt_iff_toInt_lt, Int64.le_iff_toInt_le, ← Int64.toInt_inj, Int32.toInt_toInt64, Int32.reduceToInt, Int64.reduceToInt] at t_4_0
    refine lv_iconst (v := 1) hx hb dX8_endsRecord_7 (by decide) ?_
    refine kIret (u := (iW, fI, j0, j1, j2, j3, s0, s1, s2, s3)) hx hb hr rfl hlocks hS dX8_endsRecord_8 ?_ (hP.sub [0, 1, 2, 3] rfl) (hD.sub [0, 1, 2, 3] (by decide) rfl)
    try dsimp only
    repeat' (with_reducible apply And.intro)
    all_goals first | with_reducible assumption | ((try simp only [jT_, jP_, jD_, jC_, jB_, jW_, Int32.reduceToInt, Int64.reduceToInt, true_or, or_true, true_and, and_true]) <;> omega)
set_option maxRecDepth 100000 in
theorem iX8_stop_X8 : ∀ w ∈ wsX80, w ∈ wsX8_stop := fun w h => (goodIn_r (big := wsX8_stop) wsX80 [17, 18, 19, 20, 21, 22, 23, 24, 25, 26, 27, 28, 29, 30, 31, 32, 33, 34, 35, 36, 37, 38, 39, 40, 41, 42, 43, 44, 45, 46, 47] rfl (by decide +kernel) w h).1
set_option maxRecDepth 100000 in
set_option maxHeartbeats 4000000 in
theorem q_stop (l : Launch) (D : va_G) (cI cL cB cZ cT : ClassId) (sz : Nat) (m0 mH mI mJ mS mD mX mA mB mW mL : Nat) (aM : Int32) (aC : Int64) (mM : Int32) (mQ : Int64) (oV pL lI sW dP sT : Int32) (aT : Int64) (cH iW iH aE mN : Int32) (sZ : Int64) (tS tA tW lS : Int32) (fI : Nat → Int64) (j0 j1 j2 j3 : Int32) (s0 s1 s2 s3 : Int32) (k : Int32) (ht0 : jT_ s0 j0) (ht1 : jT_ s1 j1) (ht2 : jT_ s2 j2) (ht3 : jT_ s3 j3) (hiw : jW_ iW cH) : kM (S := ((Nat → Int64) × Int32 × Int32 × Int32 × Int32 × Int32 × Int32 × Int32 × Int32)) l yX8_stop wsX8_stop ({ frames := 2, cells := 0, slots := 0, locals := 43 }) D (kT cI cL cB cZ cT) [.ref m0, .int k] [(m0, .inr (8, [.ref mH, .int aM, .long aC, .int mM, .long mQ, .int oV, .int pL, .int lI, .int sW, .int dP, .int sT, .long aT, .int cH, .int iW, .ref mI, .ref mJ, .ref mS, .ref mD, .int iH, .int aE, .int mN, .long sZ, .ref mX, .int tS, .int tA, .int tW, .ref mA, .ref mB, .ref mW, .ref mL, .int lS])), (mI, .inl (cL, 1200, .inr (.inl fI))), (mJ, .inl (cI, 4, .inl (k4i j0 j1 j2 j3))), (mS, .inl (cI, 4, .inl (k4i s0 s1 s2 s3)))] sz eI (fun r u => r = k ∧ jT_ (u.2.2.2.2.2.1) (u.2.1) ∧ jT_ (u.2.2.2.2.2.2.1) (u.2.2.1) ∧ jT_ (u.2.2.2.2.2.2.2.1) (u.2.2.2.1) ∧ jT_ (u.2.2.2.2.2.2.2.2) (u.2.2.2.2.1)) (fun u => [(m0, .inr (8, [.ref mH, .int aM, .long aC, .int mM, .long mQ, .int oV, .int pL, .int lI, .int sW, .int dP, .int k, .long aT, .int 0, .int 0, .ref mI, .ref mJ, .ref mS, .ref mD, .int iH, .int aE, .int mN, .long sZ, .ref mX, .int tS, .int tA, .int tW, .ref mA, .ref mB, .ref mW, .ref mL, .int lS])), (mI, .inl (cL, 1200, .inr (.inl u.1))), (mJ, .inl (cI, 4, .inl (k4i u.2.1 u.2.2.1 u.2.2.2.1 u.2.2.2.2.1))), (mS, .inl (cI, 4, .inl (k4i u.2.2.2.2.2.1 u.2.2.2.2.2.2.1 u.2.2.2.2.2.2.2.1 u.2.2.2.2.2.2.2.2)))]) 0 0 := by
  refine kStart (cc := cX8_stop) (maxL := 3) (ret := (some .int)) (own := RX8) (by decide) rfl rfl (Nat.le_of_ble_eq_true rfl) ?_
  intro p e s m args below meth c A ls hx hb hr hml hown hts hlocks hnm hsz hA hG hP hD hS hl
  have hK := hG.1
  have hl : lv_has ls 3 [(0, .ref m0), (1, .int k)] := hl
  refine lv_aload_n hx hb dX8_stop_0 rfl (lv_at hl 0 rfl) ?_
  refine kCallI (wr := []) (va_runV (As := []) (rest := []) ⟨hx, hb, hml, hown, hts⟩ (q_endsRecord l D cI cL cB cZ cT _ m0 mH mI mJ mS mD mX mA mB mW mL aM aC mM mQ oV pL lI sW dP sT aT cH iW iH aE mN sZ tS tA tW lS fI j0 j1 j2 j3 s0 s1 s2 s3 (by first | with_reducible assumption | ((try simp only [jT_, jP_, jD_, jC_, jB_, jW_, Int32.reduceToInt, Int64.reduceToInt, true_or, or_true, true_and, and_true]) <;> omega)) (by first | with_reducible assumption | ((try simp only [jT_, jP_, jD_, jC_, jB_, jW_, Int32.reduceToInt, Int64.reduceToInt, true_or, or_true, true_and, and_true]) <;> omega)) (by first | with_reducible assumption | ((try simp only [jT_, jP_, jD_, jC_, jB_, jW_, Int32.reduceToInt, Int64.reduceToInt, true_or, or_true, true_and, and_true]) <;> omega)) (by first | with_reducible assumption | ((try simp only [jT_, jP_, jD_, jC_, jB_, jW_, Int32.reduceToInt, Int64.reduceToInt, true_or, or_true, true_and, and_true]) <;> omega)) (by first | with_reducible assumption | ((try simp only [jT_, jP_, jD_, jC_, jB_, jW_, Int32.reduceToInt, Int64.reduceToInt, true_or, or_true, true_and, and_true]) <;> omega))) (cwV 0 hts gX8_stop_X8_endsRecord rfl rfl rfl (by decide +kernel) ⟨Nat.le_of_ble_eq_true rfl, Nat.le_of_ble_eq_true rfl⟩) (kPreV hG hP hD [0, 1, 2, 3] rfl (by decide) 0 8 rfl rfl rfl) rfl rfl hl.1 rfl (lv_room (Nat.le_of_ble_eq_true rfl)) dX8_stop_1 ⟨Nat.le_of_ble_eq_true rfl, Nat.le_of_ble_eq_true rfl⟩) hA hP hD hS [0, 1, 2, 3] [] rfl rfl (by decide) (by decide) (fun r_1 u_r_1 H locs wr_1 hP hD hS => ?_)
  have hP : va_P D vwCl [(m0, .inr (8, [.ref mH, .int aM, .long aC, .int mM, .long mQ, .int oV, .int pL, .int lI, .int sW, .int dP, .int sT, .long aT, .int cH, .int u_r_1.1, .ref mI, .ref mJ, .ref mS, .ref mD, .int iH, .int aE, .int mN, .long sZ, .ref mX, .int tS, .int tA, .int tW, .ref mA, .ref mB, .ref mW, .ref mL, .int lS])), (mI, .inl (cL, 1200, .inr (.inl u_r_1.2.1))), (mJ, .inl (cI, 4, .inl (k4i u_r_1.2.2.1 u_r_1.2.2.2.1 u_r_1.2.2.2.2.1 u_r_1.2.2.2.2.2.1))), (mS, .inl (cI, 4, .inl (k4i u_r_1.2.2.2.2.2.2.1 u_r_1.2.2.2.2.2.2.2.1 u_r_1.2.2.2.2.2.2.2.2.1 u_r_1.2.2.2.2.2.2.2.2.2)))] H := hP
  have hD : va_D A [(m0, .inr (8, [.ref mH, .int aM, .long aC, .int mM, .long mQ, .int oV, .int pL, .int lI, .int sW, .int dP, .int sT, .long aT, .int cH, .int u_r_1.1, .ref mI, .ref mJ, .ref mS, .ref mD, .int iH, .int aE, .int mN, .long sZ, .ref mX, .int tS, .int tA, .int tW, .ref mA, .ref mB, .ref mW, .ref mL, .int lS])), (mI, .inl (cL, 1200, .inr (.inl u_r_1.2.1))), (mJ, .inl (cI, 4, .inl (k4i u_r_1.2.2.1 u_r_1.2.2.2.1 u_r_1.2.2.2.2.1 u_r_1.2.2.2.2.2.1))), (mS, .inl (cI, 4, .inl (k4i u_r_1.2.2.2.2.2.2.1 u_r_1.2.2.2.2.2.2.2.1 u_r_1.2.2.2.2.2.2.2.2.1 u_r_1.2.2.2.2.2.2.2.2.2)))] := hD
  try dsimp only at wr_1
  try simp only [Int32.reduceToInt, Int64.reduceToInt] at wr_1
  obtain ⟨wr_1_0, wr_1_1, wr_1_2, wr_1_3, wr_1_4, wr_1_5, wr_1_6⟩ := wr_1
  refine lv_istore_n (lv' := [(2, .int r_1), (0, .ref m0), (1, .int k)]) hx hb dX8_stop_4 rfl hl (by decide) rfl (fun ls hl => ?_)
  refine lv_aload_n hx hb dX8_stop_5 rfl (lv_at hl 1 rfl) ?_
  refine lv_iconst (v := 0) hx hb dX8_stop_6 (by decide) ?_
  refine va_put (D := D) (ci := 8) (v := .int 0) (ty := .boolean) (C := RX8) (T := TX8) (N := 31) hx hb hts iX8_stop_X8 tyX8 tyX8_ok nmX8 hown hK hP hD hS 0 rfl rfl 13 (by decide) (hts (.fieldLink RX8 115 "TapeCalculatorModel" "isWritten" "Z") (List.mem_of_getElem? (i := 1) rfl)) (fun _ h9 => h9) rfl (by decide +kernel) rfl rfl (Nat.le_of_ble_eq_true rfl) dX8_stop_7 (fun H locs hP hD hS => ?_)
  have hP : va_P D vwCl [(m0, .inr (8, [.ref mH, .int aM, .long aC, .int mM, .long mQ, .int oV, .int pL, .int lI, .int sW, .int dP, .int sT, .long aT, .int cH, .int 0, .ref mI, .ref mJ, .ref mS, .ref mD, .int iH, .int aE, .int mN, .long sZ, .ref mX, .int tS, .int tA, .int tW, .ref mA, .ref mB, .ref mW, .ref mL, .int lS])), (mI, .inl (cL, 1200, .inr (.inl u_r_1.2.1))), (mJ, .inl (cI, 4, .inl (k4i u_r_1.2.2.1 u_r_1.2.2.2.1 u_r_1.2.2.2.2.1 u_r_1.2.2.2.2.2.1))), (mS, .inl (cI, 4, .inl (k4i u_r_1.2.2.2.2.2.2.1 u_r_1.2.2.2.2.2.2.2.1 u_r_1.2.2.2.2.2.2.2.2.1 u_r_1.2.2.2.2.2.2.2.2.2)))] H := hP
  have hD : va_D A [(m0, .inr (8, [.ref mH, .int aM, .long aC, .int mM, .long mQ, .int oV, .int pL, .int lI, .int sW, .int dP, .int sT, .long aT, .int cH, .int 0, .ref mI, .ref mJ, .ref mS, .ref mD, .int iH, .int aE, .int mN, .long sZ, .ref mX, .int tS, .int tA, .int tW, .ref mA, .ref mB, .ref mW, .ref mL, .int lS])), (mI, .inl (cL, 1200, .inr (.inl u_r_1.2.1))), (mJ, .inl (cI, 4, .inl (k4i u_r_1.2.2.1 u_r_1.2.2.2.1 u_r_1.2.2.2.2.1 u_r_1.2.2.2.2.2.1))), (mS, .inl (cI, 4, .inl (k4i u_r_1.2.2.2.2.2.2.1 u_r_1.2.2.2.2.2.2.2.1 u_r_1.2.2.2.2.2.2.2.2.1 u_r_1.2.2.2.2.2.2.2.2.2)))] := hD
  refine lv_aload_n hx hb dX8_stop_10 rfl (lv_at hl 1 rfl) ?_
  refine lv_iconst (v := 0) hx hb dX8_stop_11 (by decide) ?_
  refine va_put (D := D) (ci := 8) (v := .int 0) (ty := .int) (C := RX8) (T := TX8) (N := 31) hx hb hts iX8_stop_X8 tyX8 tyX8_ok nmX8 hown hK hP hD hS 0 rfl rfl 12 (by decide) (hts (.fieldLink RX8 43 "TapeCalculatorModel" "chosen" "I") (List.mem_of_getElem? (i := 2) rfl)) (fun _ h9 => h9) rfl (by decide +kernel) rfl rfl (Nat.le_of_ble_eq_true rfl) dX8_stop_12 (fun H locs hP hD hS => ?_)
  have hP : va_P D vwCl [(m0, .inr (8, [.ref mH, .int aM, .long aC, .int mM, .long mQ, .int oV, .int pL, .int lI, .int sW, .int dP, .int sT, .long aT, .int 0, .int 0, .ref mI, .ref mJ, .ref mS, .ref mD, .int iH, .int aE, .int mN, .long sZ, .ref mX, .int tS, .int tA, .int tW, .ref mA, .ref mB, .ref mW, .ref mL, .int lS])), (mI, .inl (cL, 1200, .inr (.inl u_r_1.2.1))), (mJ, .inl (cI, 4, .inl (k4i u_r_1.2.2.1 u_r_1.2.2.2.1 u_r_1.2.2.2.2.1 u_r_1.2.2.2.2.2.1))), (mS, .inl (cI, 4, .inl (k4i u_r_1.2.2.2.2.2.2.1 u_r_1.2.2.2.2.2.2.2.1 u_r_1.2.2.2.2.2.2.2.2.1 u_r_1.2.2.2.2.2.2.2.2.2)))] H := hP
  have hD : va_D A [(m0, .inr (8, [.ref mH, .int aM, .long aC, .int mM, .long mQ, .int oV, .int pL, .int lI, .int sW, .int dP, .int sT, .long aT, .int 0, .int 0, .ref mI, .ref mJ, .ref mS, .ref mD, .int iH, .int aE, .int mN, .long sZ, .ref mX, .int tS, .int tA, .int tW, .ref mA, .ref mB, .ref mW, .ref mL, .int lS])), (mI, .inl (cL, 1200, .inr (.inl u_r_1.2.1))), (mJ, .inl (cI, 4, .inl (k4i u_r_1.2.2.1 u_r_1.2.2.2.1 u_r_1.2.2.2.2.1 u_r_1.2.2.2.2.2.1))), (mS, .inl (cI, 4, .inl (k4i u_r_1.2.2.2.2.2.2.1 u_r_1.2.2.2.2.2.2.2.1 u_r_1.2.2.2.2.2.2.2.2.1 u_r_1.2.2.2.2.2.2.2.2.2)))] := hD
  refine lv_aload_n hx hb dX8_stop_15 rfl (lv_at hl 1 rfl) ?_
  refine lv_iload_n hx hb dX8_stop_16 rfl (lv_at hl 2 rfl) ?_
  refine va_put (D := D) (ci := 8) (v := .int k) (ty := .int) (C := RX8) (T := TX8) (N := 31) hx hb hts iX8_stop_X8 tyX8 tyX8_ok nmX8 hown hK hP hD hS 0 rfl rfl 10 (by decide) (hts (.fieldLink RX8 87 "TapeCalculatorModel" "stopped" "I") (List.mem_of_getElem? (i := 3) rfl)) (fun _ h9 => h9) rfl (by decide +kernel) rfl rfl (Nat.le_of_ble_eq_true rfl) dX8_stop_17 (fun H locs hP hD hS => ?_)
  have hP : va_P D vwCl [(m0, .inr (8, [.ref mH, .int aM, .long aC, .int mM, .long mQ, .int oV, .int pL, .int lI, .int sW, .int dP, .int k, .long aT, .int 0, .int 0, .ref mI, .ref mJ, .ref mS, .ref mD, .int iH, .int aE, .int mN, .long sZ, .ref mX, .int tS, .int tA, .int tW, .ref mA, .ref mB, .ref mW, .ref mL, .int lS])), (mI, .inl (cL, 1200, .inr (.inl u_r_1.2.1))), (mJ, .inl (cI, 4, .inl (k4i u_r_1.2.2.1 u_r_1.2.2.2.1 u_r_1.2.2.2.2.1 u_r_1.2.2.2.2.2.1))), (mS, .inl (cI, 4, .inl (k4i u_r_1.2.2.2.2.2.2.1 u_r_1.2.2.2.2.2.2.2.1 u_r_1.2.2.2.2.2.2.2.2.1 u_r_1.2.2.2.2.2.2.2.2.2)))] H := hP
  have hD : va_D A [(m0, .inr (8, [.ref mH, .int aM, .long aC, .int mM, .long mQ, .int oV, .int pL, .int lI, .int sW, .int dP, .int k, .long aT, .int 0, .int 0, .ref mI, .ref mJ, .ref mS, .ref mD, .int iH, .int aE, .int mN, .long sZ, .ref mX, .int tS, .int tA, .int tW, .ref mA, .ref mB, .ref mW, .ref mL, .int lS])), (mI, .inl (cL, 1200, .inr (.inl u_r_1.2.1))), (mJ, .inl (cI, 4, .inl (k4i u_r_1.2.2.1 u_r_1.2.2.2.1 u_r_1.2.2.2.2.1 u_r_1.2.2.2.2.2.1))), (mS, .inl (cI, 4, .inl (k4i u_r_1.2.2.2.2.2.2.1 u_r_1.2.2.2.2.2.2.2.1 u_r_1.2.2.2.2.2.2.2.2.1 u_r_1.2.2.2.2.2.2.2.2.2)))] := hD
  refine lv_iload_n hx hb dX8_stop_20 rfl (lv_at hl 2 rfl) ?_
  refine kIret (u := (u_r_1.2.1, u_r_1.2.2.1, u_r_1.2.2.2.1, u_r_1.2.2.2.2.1, u_r_1.2.2.2.2.2.1, u_r_1.2.2.2.2.2.2.1, u_r_1.2.2.2.2.2.2.2.1, u_r_1.2.2.2.2.2.2.2.2.1, u_r_1.2.2.2.2.2.2.2.2.2)) hx hb hr rfl hlocks hS dX8_stop_21 ?_ (hP.sub [0, 1, 2, 3] rfl) (hD.sub [0, 1, 2, 3] (by decide) rfl)
  refine ⟨rfl, ?_⟩
  try dsimp only
  repeat' (with_reducible apply And.intro)
  all_goals first | with_reducible assumption | ((try simp only [jT_, jP_, jD_, jC_, jB_, jW_, Int32.reduceToInt, Int64.reduceToInt, true_or, or_true, true_and, and_true]) <;> omega)
set_option maxRecDepth 100000 in
set_option maxHeartbeats 4000000 in
theorem q_wants (l : Launch) (D : va_G) (cI cL cB cZ cT : ClassId) (sz : Nat) (a : Int32) : kM (S := Unit) l yX8_wants wsX8_wants ({ frames := 1, cells := 0, slots := 0, locals := 25 }) D (kT cI cL cB cZ cT) [.int a] [] sz eI (fun r _ => r = (kb ((5 ≤ a.toInt ∧ a.toInt ≤ 7) ∨ (9 ≤ a.toInt ∧ a.toInt ≤ 18) ∨ a.toInt = 31))) (fun _ => []) 0 0 := by
  refine kStart (cc := cX8_wants) (maxL := 1) (ret := (some .boolean)) (own := RX8) (by decide) rfl rfl (Nat.le_of_ble_eq_true rfl) ?_
  intro p e s m args below meth c A ls hx hb hr hml hown hts hlocks hnm hsz hA hG hP hD hS hl
  have hK := hG.1
  have hl : lv_has ls 1 [(0, .int a)] := hl
  refine lv_iload_n hx hb dX8_wants_0 rfl (lv_at hl 0 rfl) ?_
  refine lv_i2l hx hb dX8_wants_1 rfl ?_
  refine lv_ldc2 (v := 5) hx hb hown (hts (.constantLong RX8 94 (5)) (List.mem_of_getElem? (i := 1) rfl)) dX8_wants_2 ?_
  refine lv_ldc2 (v := 7) hx hb hown (hts (.constantLong RX8 128 (7)) (List.mem_of_getElem? (i := 2) rfl)) dX8_wants_5 ?_
  refine kCallI (wr := []) (va_runS (As := [.long a.toInt64, .long 5, .long 7]) (rest := []) ⟨hx, hb, hml, hown, hts⟩ (q_in l D cI cL cB cZ cT _ (a.toInt64) 5 7) (va_cwS 3 hts gX8_wants_X8_in rfl rfl rfl (by decide +kernel) ⟨Nat.le_of_ble_eq_true rfl, Nat.le_of_ble_eq_true rfl⟩) (kPreS hG hP hD [] rfl (by decide)) rfl rfl hl.1 rfl (lv_room (Nat.le_of_ble_eq_true rfl)) dX8_wants_8 ⟨Nat.le_of_ble_eq_true rfl, Nat.le_of_ble_eq_true rfl⟩) hA hP hD hS [] [] rfl rfl (by decide) (by decide) (fun r_1 u_r_1 H locs wr_1 hP hD hS => ?_)
  have hP : va_P D vwCl [] H := hP
  have hD : va_D A [] := hD
  try dsimp only at wr_1
  subst wr_1
  refine lv_if_ne (tgt := 34) hx hb dX8_wants_11 (by decide) (fun c_11_1 => ?_) (fun c_11_1 => ?_)
  · have t_11_1 := c_11_1
    try simp only [kb_eq0, kb_ne0, lg_cmp_lt, lg_cmp_le, lg_cmp_gt, lg_cmp_ge, lg_cmp_eq] at t_11_1
    try simp only [Int32.lt_iff_toInt_lt, Int32.le_iff_toInt_le, ← Int32.toInt_inj, Int64.lt_iff_toInt_lt, Int64.le_iff_toInt_le, ← Int64.toInt_inj, Int32.toInt_toInt64, Int32.reduceToInt, Int64.reduceToInt] at t_11_1
    refine lv_iconst (v := 1) hx hb dX8_wants_34 (by decide) ?_
    refine lv_goto (tgt := 39) hx hb dX8_wants_35 (by decide) ?_
    refine kIret (u := ()) hx hb hr rfl hlocks hS dX8_wants_39 ?_ (hP.sub [] rfl) (hD.sub [] (by decide) rfl)
    first
      | exact (kb_t (by omega)).symm
      | exact (kb_f (by omega)).symm
  · have t_11_1 := c_11_1
    try simp only [kb_eq0, kb_ne0, lg_cmp_lt, lg_cmp_le, lg_cmp_gt, lg_cmp_ge, lg_cmp_eq] at t_11_1
    try simp only [Int32.lt_iff_toInt_lt, Int32.le_iff_toInt_le, ← Int32.toInt_inj, Int64.lt_iff_toInt_lt, Int64.le_iff_toInt_le, ← Int64.toInt_inj, Int32.toInt_toInt64, Int32.reduceToInt, Int64.reduceToInt] at t_11_1
    refine lv_iload_n hx hb dX8_wants_14 rfl (lv_at hl 0 rfl) ?_
    refine lv_i2l hx hb dX8_wants_15 rfl ?_
    refine lv_ldc2 (v := 9) hx hb hown (hts (.constantLong RX8 130 (9)) (List.mem_of_getElem? (i := 3) rfl)) dX8_wants_16 ?_
    refine lv_ldc2 (v := 18) hx hb hown (hts (.constantLong RX8 132 (18)) (List.mem_of_getElem? (i := 4) rfl)) dX8_wants_19 ?_
    refine kCallI (wr := []) (va_runS (As := [.long a.toInt64, .long 9, .long 18]) (rest := []) ⟨hx, hb, hml, hown, hts⟩ (q_in l D cI cL cB cZ cT _ (a.toInt64) 9 18) (va_cwS 3 hts gX8_wants_X8_in rfl rfl rfl (by decide +kernel) ⟨Nat.le_of_ble_eq_true rfl, Nat.le_of_ble_eq_true rfl⟩) (kPreS hG hP hD [] rfl (by decide)) rfl rfl hl.1 rfl (lv_room (Nat.le_of_ble_eq_true rfl)) dX8_wants_22 ⟨Nat.le_of_ble_eq_true rfl, Nat.le_of_ble_eq_true rfl⟩) hA hP hD hS [] [] rfl rfl (by decide) (by decide) (fun r_3 u_r_3 H locs wr_3 hP hD hS => ?_)
    have hP : va_P D vwCl [] H := hP
    have hD : va_D A [] := hD
    try dsimp only at wr_3
    subst wr_3
    refine lv_if_ne (tgt := 34) hx hb dX8_wants_25 (by decide) (fun c_25_3 => ?_) (fun c_25_3 => ?_)
    · have t_25_3 := c_25_3
      try simp only [kb_eq0, kb_ne0, lg_cmp_lt, lg_cmp_le, lg_cmp_gt, lg_cmp_ge, lg_cmp_eq] at t_25_3
      try simp only [Int32.lt_iff_toInt_lt, Int32.le_iff_toInt_le, ← Int32.toInt_inj, Int64.lt_iff_toInt_lt, Int64.le_iff_toInt_le, ← Int64.toInt_inj, Int32.toInt_toInt64, Int32.reduceToInt, Int64.reduceToInt] at t_25_3
      refine lv_iconst (v := 1) hx hb dX8_wants_34 (by decide) ?_
      refine lv_goto (tgt := 39) hx hb dX8_wants_35 (by decide) ?_
      refine kIret (u := ()) hx hb hr rfl hlocks hS dX8_wants_39 ?_ (hP.sub [] rfl) (hD.sub [] (by decide) rfl)
      first
        | exact (kb_t (by omega)).symm
        | exact (kb_f (by omega)).symm
    · have t_25_3 := c_25_3
      try simp only [kb_eq0, kb_ne0, lg_cmp_lt, lg_cmp_le, lg_cmp_gt, lg_cmp_ge, lg_cmp_eq] at t_25_3
      try simp only [Int32.lt_iff_toInt_lt, Int32.le_iff_toInt_le, ← Int32.toInt_inj, Int64.lt_iff_toInt_lt, Int64.le_iff_toInt_le, ← Int64.toInt_inj, Int32.toInt_toInt64, Int32.reduceToInt, Int64.reduceToInt] at t_25_3
      refine lv_iload_n hx hb dX8_wants_28 rfl (lv_at hl 0 rfl) ?_
      refine lv_bipush (v := 31) hx hb dX8_wants_29 (by decide) ?_
      refine lv_icmp_ne (tgt := 38) hx hb dX8_wants_31 (by decide) (fun c_31_4 => ?_) (fun c_31_4 => ?_)
      · have t_31_4 := c_31_4
        try simp only [kb_eq0, kb_ne0, lg_cmp_lt, lg_cmp_le, lg_cmp_gt, lg_cmp_ge, lg_cmp_eq] at t_31_4
        try simp only [Int32.lt_iff_toInt_lt, Int32.le_iff_toInt_le, ← Int32.toInt_inj, Int64.lt_iff_toInt_lt, Int64.le_iff_toInt_le, ← Int64.toInt_inj, Int32.toInt_toInt64, Int32.reduceToInt, Int64.reduceToInt] at t_31_4
        refine lv_iconst (v := 0) hx hb dX8_wants_38 (by decide) ?_
        refine kIret (u := ()) hx hb hr rfl hlocks hS dX8_wants_39 ?_ (hP.sub [] rfl) (hD.sub [] (by decide) rfl)
        first
          | exact (kb_t (by omega)).symm
          | exact (kb_f (by omega)).symm
      · have t_31_4 := c_31_4
        try simp only [kb_eq0, kb_ne0, lg_cmp_lt, lg_cmp_le, lg_cmp_gt, lg_cmp_ge, lg_cmp_eq] at t_31_4
        try simp only [Int32.lt_iff_toInt_lt, Int32.le_iff_toInt_le, ← Int32.toInt_inj, Int64.lt_iff_toInt_lt, Int64.le_iff_toInt_le, ← Int64.toInt_inj, Int32.toInt_toInt64, Int32.reduceToInt, Int64.reduceToInt] at t_31_4
        refine lv_iconst (v := 1) hx hb dX8_wants_34 (by decide) ?_
        refine lv_goto (tgt := 39) hx hb dX8_wants_35 (by decide) ?_
        refine kIret (u := ()) hx hb hr rfl hlocks hS dX8_wants_39 ?_ (hP.sub [] rfl) (hD.sub [] (by decide) rfl)
        first
          | exact (kb_t (by omega)).symm
          | exact (kb_f (by omega)).symm
set_option maxRecDepth 100000 in
theorem iX8_operand_X8 : ∀ w ∈ wsX80, w ∈ wsX8_operand := fun w h => (goodIn_r (big := wsX8_operand) wsX80 [13, 14, 15, 16, 17, 18, 19, 20, 21, 22, 23, 24, 25, 26, 27, 28, 29, 30, 31, 32, 33, 34, 35, 36, 37, 38, 39, 40, 41, 42, 43] rfl (by decide +kernel) w h).1
set_option maxRecDepth 100000 in
set_option maxHeartbeats 4000000 in
theorem q_operand (l : Launch) (D : va_G) (cI cL cB cZ cT : ClassId) (sz : Nat) (m0 mH mI mJ mS mD mX mA mB mW mL : Nat) (aM : Int32) (aC : Int64) (mM : Int32) (mQ : Int64) (oV pL lI sW dP sT : Int32) (aT : Int64) (cH iW iH aE mN : Int32) (sZ : Int64) (tS tA tW lS : Int32) (fH : Nat → Int32) (had : 0 ≤ aE.toInt ∧ aE.toInt ≤ 511 ∧ (iH.toInt = 0 ∨ aE.toInt ≤ 510)) : kM (S := (Int32 × Int64)) l yX8_operand wsX8_operand ({ frames := 1, cells := 0, slots := 0, locals := 21 }) D (kT cI cL cB cZ cT) [.ref m0] [(m0, .inr (8, [.ref mH, .int aM, .long aC, .int mM, .long mQ, .int oV, .int pL, .int lI, .int sW, .int dP, .int sT, .long aT, .int cH, .int iW, .ref mI, .ref mJ, .ref mS, .ref mD, .int iH, .int aE, .int mN, .long sZ, .ref mX, .int tS, .int tA, .int tW, .ref mA, .ref mB, .ref mW, .ref mL, .int lS])), (mH, .inl (cI, 512, .inl fH))] sz eV (fun r u => jB_ (u.1)) (fun u => [(m0, .inr (8, [.ref mH, .int aM, .long aC, .int mM, .long mQ, .int oV, .int pL, .int lI, .int sW, .int dP, .int sT, .long aT, .int cH, .int iW, .ref mI, .ref mJ, .ref mS, .ref mD, .int iH, .int aE, .int u.1, .long u.2, .ref mX, .int tS, .int tA, .int tW, .ref mA, .ref mB, .ref mW, .ref mL, .int lS])), (mH, .inl (cI, 512, .inl fH))]) 0 0 := by
  refine kStart (cc := cX8_operand) (maxL := 3) (ret := none) (own := RX8) (by decide) rfl rfl (Nat.le_of_ble_eq_true rfl) ?_
  intro p e s m args below meth c A ls hx hb hr hml hown hts hlocks hnm hsz hA hG hP hD hS hl
  have hK := hG.1
  have hl : lv_has ls 3 [(0, .ref m0)] := hl
  refine lv_aload_n hx hb dX8_operand_0 rfl (lv_at hl 0 rfl) ?_
  refine va_get (D := D) (ci := 8) (v := .int iH) (C := RX8) (T := TX8) (N := 31) hx hb hts iX8_operand_X8 hown hK hP 0 rfl rfl 18 (by decide) (hts (.fieldLink RX8 134 "TapeCalculatorModel" "isWhole" "Z") (List.mem_of_getElem? (i := 1) rfl)) (fun _ h9 => h9) rfl dX8_operand_1 ?_
  refine lv_if_eq (tgt := 18) hx hb dX8_operand_4 (by decide) (fun c_4_0 => ?_) (fun c_4_0 => ?_)
  · have t_4_0 := c_4_0
    try simp only [kb_eq0, kb_ne0, lg_cmp_lt, lg_cmp_le, lg_cmp_gt, lg_cmp_ge, lg_cmp_eq] at t_4_0
    try simp only [Int32.lt_iff_toInt_lt, Int32.le_iff_toInt_le, ← Int32.toInt_inj, Int64.lt_iff_toInt_lt, Int64.le_iff_toInt_le, ← Int64.toInt_inj, Int32.toInt_toInt64, Int32.reduceToInt, Int64.reduceToInt] at t_4_0
    refine lv_aload_n hx hb dX8_operand_18 rfl (lv_at hl 0 rfl) ?_
    refine va_get (D := D) (ci := 8) (v := .ref mH) (C := RX8) (T := TX8) (N := 31) hx hb hts iX8_operand_X8 hown hK hP 0 rfl rfl 0 (by decide) (hts (.fieldLink RX8 7 "TapeCalculatorModel" "half" "[I") (List.mem_of_getElem? (i := 3) rfl)) (fun _ h9 => h9) rfl dX8_operand_19 ?_
    refine lv_aload_n hx hb dX8_operand_22 rfl (lv_at hl 0 rfl) ?_
    refine va_get (D := D) (ci := 8) (v := .int aE) (C := RX8) (T := TX8) (N := 31) hx hb hts iX8_operand_X8 hown hK hP 0 rfl rfl 19 (by decide) (hts (.fieldLink RX8 137 "TapeCalculatorModel" "address" "I") (List.mem_of_getElem? (i := 2) rfl)) (fun _ h9 => h9) rfl dX8_operand_23 ?_
    refine va_iald hx hb hK hP 1 0 rfl rfl (vp_in_iff.mpr (by omega)) dX8_operand_26 ?_
    refine lv_i2l hx hb dX8_operand_27 rfl ?_
    refine lv_bipush (v := 18) hx hb dX8_operand_28 (by decide) ?_
    refine lv_lshl hx hb dX8_operand_30 rfl ?_
    refine lv_topl (fun x_2 ex_2 => ?_)
    refine lv_lstore_n (lv' := [(1, .long x_2), (0, .ref m0)]) hx hb dX8_operand_31 rfl hl (by decide) rfl (fun ls hl => ?_)
    refine lv_aload_n hx hb dX8_operand_32 rfl (lv_at hl 1 rfl) ?_
    refine lv_lload_n hx hb dX8_operand_33 rfl (lv_at hl 0 rfl) ?_
    refine lv_ldc2 (v := 34359738368) hx hb hown (hts (.constantLong RX8 140 (34359738368)) (List.mem_of_getElem? (i := 4) rfl)) dX8_operand_34 ?_
    refine lv_land hx hb dX8_operand_37 ?_
    refine lv_lconst (v := 0) hx hb dX8_operand_38 (by decide) ?_
    refine W.lcmp hx hb dX8_operand_39 ?_
    refine lv_if_eq (tgt := 47) hx hb dX8_operand_40 (by decide) (fun c_40_2 => ?_) (fun c_40_2 => ?_)
    · have t_40_2 := c_40_2
      try simp only [kb_eq0, kb_ne0, lg_cmp_lt, lg_cmp_le, lg_cmp_gt, lg_cmp_ge, lg_cmp_eq] at t_40_2
      try simp only [Int32.lt_iff_toInt_lt, Int32.le_iff_toInt_le, ← Int32.toInt_inj, Int64.lt_iff_toInt_lt, Int64.le_iff_toInt_le, ← Int64.toInt_inj, Int32.toInt_toInt64, Int32.reduceToInt, Int64.reduceToInt] at t_40_2
      refine lv_iconst (v := 0) hx hb dX8_operand_47 (by decide) ?_
      refine va_put (D := D) (ci := 8) (v := .int 0) (ty := .boolean) (C := RX8) (T := TX8) (N := 31) hx hb hts iX8_operand_X8 tyX8 tyX8_ok nmX8 hown hK hP hD hS 0 rfl rfl 20 (by decide) (hts (.fieldLink RX8 142 "TapeCalculatorModel" "minus" "Z") (List.mem_of_getElem? (i := 5) rfl)) (fun _ h9 => h9) rfl (by decide +kernel) rfl rfl (Nat.le_of_ble_eq_true rfl) dX8_operand_48 (fun H locs hP hD hS => ?_)
      have hP : va_P D vwCl [(m0, .inr (8, [.ref mH, .int aM, .long aC, .int mM, .long mQ, .int oV, .int pL, .int lI, .int sW, .int dP, .int sT, .long aT, .int cH, .int iW, .ref mI, .ref mJ, .ref mS, .ref mD, .int iH, .int aE, .int 0, .long sZ, .ref mX, .int tS, .int tA, .int tW, .ref mA, .ref mB, .ref mW, .ref mL, .int lS])), (mH, .inl (cI, 512, .inl fH))] H := hP
      have hD : va_D A [(m0, .inr (8, [.ref mH, .int aM, .long aC, .int mM, .long mQ, .int oV, .int pL, .int lI, .int sW, .int dP, .int sT, .long aT, .int cH, .int iW, .ref mI, .ref mJ, .ref mS, .ref mD, .int iH, .int aE, .int 0, .long sZ, .ref mX, .int tS, .int tA, .int tW, .ref mA, .ref mB, .ref mW, .ref mL, .int lS])), (mH, .inl (cI, 512, .inl fH))] := hD
      refine lv_aload_n hx hb dX8_operand_51 rfl (lv_at hl 1 rfl) ?_
      refine lv_lload_n hx hb dX8_operand_52 rfl (lv_at hl 0 rfl) ?_
      refine lv_ldc2 (v := 34359738367) hx hb hown (hts (.constantLong RX8 92 (34359738367)) (List.mem_of_getElem? (i := 6) rfl)) dX8_operand_53 ?_
      refine lv_land hx hb dX8_operand_56 ?_
      refine lv_topl (fun x_4 ex_4 => ?_)
      refine va_put (D := D) (ci := 8) (v := .long x_4) (ty := .long) (C := RX8) (T := TX8) (N := 31) hx hb hts iX8_operand_X8 tyX8 tyX8_ok nmX8 hown hK hP hD hS 0 rfl rfl 21 (by decide) (hts (.fieldLink RX8 145 "TapeCalculatorModel" "size" "J") (List.mem_of_getElem? (i := 7) rfl)) (fun _ h9 => h9) rfl (by decide +kernel) rfl rfl (Nat.le_of_ble_eq_true rfl) dX8_operand_57 (fun H locs hP hD hS => ?_)
      have hP : va_P D vwCl [(m0, .inr (8, [.ref mH, .int aM, .long aC, .int mM, .long mQ, .int oV, .int pL, .int lI, .int sW, .int dP, .int sT, .long aT, .int cH, .int iW, .ref mI, .ref mJ, .ref mS, .ref mD, .int iH, .int aE, .int 0, .long x_4, .ref mX, .int tS, .int tA, .int tW, .ref mA, .ref mB, .ref mW, .ref mL, .int lS])), (mH, .inl (cI, 512, .inl fH))] H := hP
      have hD : va_D A [(m0, .inr (8, [.ref mH, .int aM, .long aC, .int mM, .long mQ, .int oV, .int pL, .int lI, .int sW, .int dP, .int sT, .long aT, .int cH, .int iW, .ref mI, .ref mJ, .ref mS, .ref mD, .int iH, .int aE, .int 0, .long x_4, .ref mX, .int tS, .int tA, .int tW, .ref mA, .ref mB, .ref mW, .ref mL, .int lS])), (mH, .inl (cI, 512, .inl fH))] := hD
      refine kVret (u := (0, x_4)) hx hb hr hlocks hS dX8_operand_60 ?_ (hP.sub [0, 1] rfl) (hD.sub [0, 1] (by decide) rfl)
      try dsimp only
      repeat' (with_reducible apply And.intro)
      all_goals first | with_reducible assumption | ((try simp only [jT_, jP_, jD_, jC_, jB_, jW_, Int32.reduceToInt, Int64.reduceToInt, true_or, or_true, true_and, and_true]) <;> omega)
    · have t_40_2 := c_40_2
      try simp only [kb_eq0, kb_ne0, lg_cmp_lt, lg_cmp_le, lg_cmp_gt, lg_cmp_ge, lg_cmp_eq] at t_40_2
      try simp only [Int32.lt_iff_toInt_lt, Int32.le_iff_toInt_le, ← Int32.toInt_inj, Int64.lt_iff_toInt_lt, Int64.le_iff_toInt_le, ← Int64.toInt_inj, Int32.toInt_toInt64, Int32.reduceToInt, Int64.reduceToInt] at t_40_2
      refine lv_iconst (v := 1) hx hb dX8_operand_43 (by decide) ?_
      refine lv_goto (tgt := 48) hx hb dX8_operand_44 (by decide) ?_
      refine va_put (D := D) (ci := 8) (v := .int 1) (ty := .boolean) (C := RX8) (T := TX8) (N := 31) hx hb hts iX8_operand_X8 tyX8 tyX8_ok nmX8 hown hK hP hD hS 0 rfl rfl 20 (by decide) (hts (.fieldLink RX8 142 "TapeCalculatorModel" "minus" "Z") (List.mem_of_getElem? (i := 5) rfl)) (fun _ h9 => h9) rfl (by decide +kernel) rfl rfl (Nat.le_of_ble_eq_true rfl) dX8_operand_48 (fun H locs hP hD hS => ?_)
      have hP : va_P D vwCl [(m0, .inr (8, [.ref mH, .int aM, .long aC, .int mM, .long mQ, .int oV, .int pL, .int lI, .int sW, .int dP, .int sT, .long aT, .int cH, .int iW, .ref mI, .ref mJ, .ref mS, .ref mD, .int iH, .int aE, .int 1, .long sZ, .ref mX, .int tS, .int tA, .int tW, .ref mA, .ref mB, .ref mW, .ref mL, .int lS])), (mH, .inl (cI, 512, .inl fH))] H := hP
      have hD : va_D A [(m0, .inr (8, [.ref mH, .int aM, .long aC, .int mM, .long mQ, .int oV, .int pL, .int lI, .int sW, .int dP, .int sT, .long aT, .int cH, .int iW, .ref mI, .ref mJ, .ref mS, .ref mD, .int iH, .int aE, .int 1, .long sZ, .ref mX, .int tS, .int tA, .int tW, .ref mA, .ref mB, .ref mW, .ref mL, .int lS])), (mH, .inl (cI, 512, .inl fH))] := hD
      refine lv_aload_n hx hb dX8_operand_51 rfl (lv_at hl 1 rfl) ?_
      refine lv_lload_n hx hb dX8_operand_52 rfl (lv_at hl 0 rfl) ?_
      refine lv_ldc2 (v := 34359738367) hx hb hown (hts (.constantLong RX8 92 (34359738367)) (List.mem_of_getElem? (i := 6) rfl)) dX8_operand_53 ?_
      refine lv_land hx hb dX8_operand_56 ?_
      refine lv_topl (fun x_5 ex_5 => ?_)
      refine va_put (D := D) (ci := 8) (v := .long x_5) (ty := .long) (C := RX8) (T := TX8) (N := 31) hx hb hts iX8_operand_X8 tyX8 tyX8_ok nmX8 hown hK hP hD hS 0 rfl rfl 21 (by decide) (hts (.fieldLink RX8 145 "TapeCalculatorModel" "size" "J") (List.mem_of_getElem? (i := 7) rfl)) (fun _ h9 => h9) rfl (by decide +kernel) rfl rfl (Nat.le_of_ble_eq_true rfl) dX8_operand_57 (fun H locs hP hD hS => ?_)
      have hP : va_P D vwCl [(m0, .inr (8, [.ref mH, .int aM, .long aC, .int mM, .long mQ, .int oV, .int pL, .int lI, .int sW, .int dP, .int sT, .long aT, .int cH, .int iW, .ref mI, .ref mJ, .ref mS, .ref mD, .int iH, .int aE, .int 1, .long x_5, .ref mX, .int tS, .int tA, .int tW, .ref mA, .ref mB, .ref mW, .ref mL, .int lS])), (mH, .inl (cI, 512, .inl fH))] H := hP
      have hD : va_D A [(m0, .inr (8, [.ref mH, .int aM, .long aC, .int mM, .long mQ, .int oV, .int pL, .int lI, .int sW, .int dP, .int sT, .long aT, .int cH, .int iW, .ref mI, .ref mJ, .ref mS, .ref mD, .int iH, .int aE, .int 1, .long x_5, .ref mX, .int tS, .int tA, .int tW, .ref mA, .ref mB, .ref mW, .ref mL, .int lS])), (mH, .inl (cI, 512, .inl fH))] := hD
      refine kVret (u := (1, x_5)) hx hb hr hlocks hS dX8_operand_60 ?_ (hP.sub [0, 1] rfl) (hD.sub [0, 1] (by decide) rfl)
      try dsimp only
      repeat' (with_reducible apply And.intro)
      all_goals first | with_reducible assumption | ((try simp only [jT_, jP_, jD_, jC_, jB_, jW_, Int32.reduceToInt, Int64.reduceToInt, true_or, or_true, true_and, and_true]) <;> omega)
  · have t_4_0 := c_4_0
    try simp only [kb_eq0, kb_ne0, lg_cmp_lt, lg_cmp_le, lg_cmp_gt, lg_cmp_ge, lg_cmp_eq] at t_4_0
    try simp only [Int32.lt_iff_toInt_lt, Int32.le_iff_toInt_le, ← Int32.toInt_inj, Int64.lt_iff_toInt_lt, Int64.le_iff_toInt_le, ← Int64.toInt_inj, Int32.toInt_toInt64, Int32.reduceToInt, Int64.reduceToInt] at t_4_0
    refine lv_aload_n hx hb dX8_operand_7 rfl (lv_at hl 0 rfl) ?_
    refine lv_aload_n hx hb dX8_operand_8 rfl (lv_at hl 0 rfl) ?_
    refine va_get (D := D) (ci := 8) (v := .int aE) (C := RX8) (T := TX8) (N := 31) hx hb hts iX8_operand_X8 hown hK hP 0 rfl rfl 19 (by decide) (hts (.fieldLink RX8 137 "TapeCalculatorModel" "address" "I") (List.mem_of_getElem? (i := 2) rfl)) (fun _ h9 => h9) rfl dX8_operand_9 ?_
    refine kCallL (wr := []) (va_runV (As := [.int aE]) (rest := []) ⟨hx, hb, hml, hown, hts⟩ (q_wholeAt l D cI cL cB cZ cT _ m0 mH mI mJ mS mD mX mA mB mW mL aM aC mM mQ oV pL lI sW dP sT aT cH iW iH aE mN sZ tS tA tW lS fH aE (vp_in_iff.mpr (by omega)) (k_in1 (by omega))) (cwV 1 hts gX8_operand_X8_wholeAt rfl rfl rfl (by decide +kernel) ⟨Nat.le_of_ble_eq_true rfl, Nat.le_of_ble_eq_true rfl⟩) (kPreV hG hP hD [0, 1] rfl (by decide) 0 8 rfl rfl rfl) rfl rfl hl.1 rfl (lv_room (Nat.le_of_ble_eq_true rfl)) dX8_operand_12 ⟨Nat.le_of_ble_eq_true rfl, Nat.le_of_ble_eq_true rfl⟩) hA hP hD hS [0, 1] [] rfl rfl (by decide) (by decide) (fun r_6 u_r_6 H locs wr_6 hP hD hS => ?_)
    have hP : va_P D vwCl [(m0, .inr (8, [.ref mH, .int aM, .long aC, .int mM, .long mQ, .int oV, .int pL, .int lI, .int sW, .int dP, .int sT, .long aT, .int cH, .int iW, .ref mI, .ref mJ, .ref mS, .ref mD, .int iH, .int aE, .int mN, .long sZ, .ref mX, .int tS, .int tA, .int tW, .ref mA, .ref mB, .ref mW, .ref mL, .int lS])), (mH, .inl (cI, 512, .inl fH))] H := hP
    have hD : va_D A [(m0, .inr (8, [.ref mH, .int aM, .long aC, .int mM, .long mQ, .int oV, .int pL, .int lI, .int sW, .int dP, .int sT, .long aT, .int cH, .int iW, .ref mI, .ref mJ, .ref mS, .ref mD, .int iH, .int aE, .int mN, .long sZ, .ref mX, .int tS, .int tA, .int tW, .ref mA, .ref mB, .ref mW, .ref mL, .int lS])), (mH, .inl (cI, 512, .inl fH))] := hD
    try dsimp only at wr_6
    try simp only [Int32.reduceToInt, Int64.reduceToInt] at wr_6
    refine lv_goto (tgt := 31) hx hb dX8_operand_15 (by decide) ?_
    refine lv_lstore_n (lv' := [(1, .long r_6), (0, .ref m0)]) hx hb dX8_operand_31 rfl hl (by decide) rfl (fun ls hl => ?_)
    refine lv_aload_n hx hb dX8_operand_32 rfl (lv_at hl 1 rfl) ?_
    refine lv_lload_n hx hb dX8_operand_33 rfl (lv_at hl 0 rfl) ?_
    refine lv_ldc2 (v := 34359738368) hx hb hown (hts (.constantLong RX8 140 (34359738368)) (List.mem_of_getElem? (i := 4) rfl)) dX8_operand_34 ?_
    refine lv_land hx hb dX8_operand_37 ?_
    refine lv_lconst (v := 0) hx hb dX8_operand_38 (by decide) ?_
    refine W.lcmp hx hb dX8_operand_39 ?_
    refine lv_if_eq (tgt := 47) hx hb dX8_operand_40 (by decide) (fun c_40_6 => ?_) (fun c_40_6 => ?_)
    · have t_40_6 := c_40_6
      try simp only [kb_eq0, kb_ne0, lg_cmp_lt, lg_cmp_le, lg_cmp_gt, lg_cmp_ge, lg_cmp_eq] at t_40_6
      try simp only [Int32.lt_iff_toInt_lt, Int32.le_iff_toInt_le, ← Int32.toInt_inj, Int64.lt_iff_toInt_lt, Int64.le_iff_toInt_le, ← Int64.toInt_inj, Int32.toInt_toInt64, Int32.reduceToInt, Int64.reduceToInt] at t_40_6
      refine lv_iconst (v := 0) hx hb dX8_operand_47 (by decide) ?_
      refine va_put (D := D) (ci := 8) (v := .int 0) (ty := .boolean) (C := RX8) (T := TX8) (N := 31) hx hb hts iX8_operand_X8 tyX8 tyX8_ok nmX8 hown hK hP hD hS 0 rfl rfl 20 (by decide) (hts (.fieldLink RX8 142 "TapeCalculatorModel" "minus" "Z") (List.mem_of_getElem? (i := 5) rfl)) (fun _ h9 => h9) rfl (by decide +kernel) rfl rfl (Nat.le_of_ble_eq_true rfl) dX8_operand_48 (fun H locs hP hD hS => ?_)
      have hP : va_P D vwCl [(m0, .inr (8, [.ref mH, .int aM, .long aC, .int mM, .long mQ, .int oV, .int pL, .int lI, .int sW, .int dP, .int sT, .long aT, .int cH, .int iW, .ref mI, .ref mJ, .ref mS, .ref mD, .int iH, .int aE, .int 0, .long sZ, .ref mX, .int tS, .int tA, .int tW, .ref mA, .ref mB, .ref mW, .ref mL, .int lS])), (mH, .inl (cI, 512, .inl fH))] H := hP
      have hD : va_D A [(m0, .inr (8, [.ref mH, .int aM, .long aC, .int mM, .long mQ, .int oV, .int pL, .int lI, .int sW, .int dP, .int sT, .long aT, .int cH, .int iW, .ref mI, .ref mJ, .ref mS, .ref mD, .int iH, .int aE, .int 0, .long sZ, .ref mX, .int tS, .int tA, .int tW, .ref mA, .ref mB, .ref mW, .ref mL, .int lS])), (mH, .inl (cI, 512, .inl fH))] := hD
      refine lv_aload_n hx hb dX8_operand_51 rfl (lv_at hl 1 rfl) ?_
      refine lv_lload_n hx hb dX8_operand_52 rfl (lv_at hl 0 rfl) ?_
      refine lv_ldc2 (v := 34359738367) hx hb hown (hts (.constantLong RX8 92 (34359738367)) (List.mem_of_getElem? (i := 6) rfl)) dX8_operand_53 ?_
      refine lv_land hx hb dX8_operand_56 ?_
      refine lv_topl (fun x_8 ex_8 => ?_)
      refine va_put (D := D) (ci := 8) (v := .long x_8) (ty := .long) (C := RX8) (T := TX8) (N := 31) hx hb hts iX8_operand_X8 tyX8 tyX8_ok nmX8 hown hK hP hD hS 0 rfl rfl 21 (by decide) (hts (.fieldLink RX8 145 "TapeCalculatorModel" "size" "J") (List.mem_of_getElem? (i := 7) rfl)) (fun _ h9 => h9) rfl (by decide +kernel) rfl rfl (Nat.le_of_ble_eq_true rfl) dX8_operand_57 (fun H locs hP hD hS => ?_)
      have hP : va_P D vwCl [(m0, .inr (8, [.ref mH, .int aM, .long aC, .int mM, .long mQ, .int oV, .int pL, .int lI, .int sW, .int dP, .int sT, .long aT, .int cH, .int iW, .ref mI, .ref mJ, .ref mS, .ref mD, .int iH, .int aE, .int 0, .long x_8, .ref mX, .int tS, .int tA, .int tW, .ref mA, .ref mB, .ref mW, .ref mL, .int lS])), (mH, .inl (cI, 512, .inl fH))] H := hP
      have hD : va_D A [(m0, .inr (8, [.ref mH, .int aM, .long aC, .int mM, .long mQ, .int oV, .int pL, .int lI, .int sW, .int dP, .int sT, .long aT, .int cH, .int iW, .ref mI, .ref mJ, .ref mS, .ref mD, .int iH, .int aE, .int 0, .long x_8, .ref mX, .int tS, .int tA, .int tW, .ref mA, .ref mB, .ref mW, .ref mL, .int lS])), (mH, .inl (cI, 512, .inl fH))] := hD
      refine kVret (u := (0, x_8)) hx hb hr hlocks hS dX8_operand_60 ?_ (hP.sub [0, 1] rfl) (hD.sub [0, 1] (by decide) rfl)
      try dsimp only
      repeat' (with_reducible apply And.intro)
      all_goals first | with_reducible assumption | ((try simp only [jT_, jP_, jD_, jC_, jB_, jW_, Int32.reduceToInt, Int64.reduceToInt, true_or, or_true, true_and, and_true]) <;> omega)
    · have t_40_6 := c_40_6
      try simp only [kb_eq0, kb_ne0, lg_cmp_lt, lg_cmp_le, lg_cmp_gt, lg_cmp_ge, lg_cmp_eq] at t_40_6
      try simp only [Int32.lt_iff_toInt_lt, Int32.le_iff_toInt_le, ← Int32.toInt_inj, Int64.lt_iff_toInt_lt, Int64.le_iff_toInt_le, ← Int64.toInt_inj, Int32.toInt_toInt64, Int32.reduceToInt, Int64.reduceToInt] at t_40_6
      refine lv_iconst (v := 1) hx hb dX8_operand_43 (by decide) ?_
      refine lv_goto (tgt := 48) hx hb dX8_operand_44 (by decide) ?_
      refine va_put (D := D) (ci := 8) (v := .int 1) (ty := .boolean) (C := RX8) (T := TX8) (N := 31) hx hb hts iX8_operand_X8 tyX8 tyX8_ok nmX8 hown hK hP hD hS 0 rfl rfl 20 (by decide) (hts (.fieldLink RX8 142 "TapeCalculatorModel" "minus" "Z") (List.mem_of_getElem? (i := 5) rfl)) (fun _ h9 => h9) rfl (by decide +kernel) rfl rfl (Nat.le_of_ble_eq_true rfl) dX8_operand_48 (fun H locs hP hD hS => ?_)
      have hP : va_P D vwCl [(m0, .inr (8, [.ref mH, .int aM, .long aC, .int mM, .long mQ, .int oV, .int pL, .int lI, .int sW, .int dP, .int sT, .long aT, .int cH, .int iW, .ref mI, .ref mJ, .ref mS, .ref mD, .int iH, .int aE, .int 1, .long sZ, .ref mX, .int tS, .int tA, .int tW, .ref mA, .ref mB, .ref mW, .ref mL, .int lS])), (mH, .inl (cI, 512, .inl fH))] H := hP
      have hD : va_D A [(m0, .inr (8, [.ref mH, .int aM, .long aC, .int mM, .long mQ, .int oV, .int pL, .int lI, .int sW, .int dP, .int sT, .long aT, .int cH, .int iW, .ref mI, .ref mJ, .ref mS, .ref mD, .int iH, .int aE, .int 1, .long sZ, .ref mX, .int tS, .int tA, .int tW, .ref mA, .ref mB, .ref mW, .ref mL, .int lS])), (mH, .inl (cI, 512, .inl fH))] := hD
      refine lv_aload_n hx hb dX8_operand_51 rfl (lv_at hl 1 rfl) ?_
      refine lv_lload_n hx hb dX8_operand_52 rfl (lv_at hl 0 rfl) ?_
      refine lv_ldc2 (v := 34359738367) hx hb hown (hts (.constantLong RX8 92 (34359738367)) (List.mem_of_getElem? (i := 6) rfl)) dX8_operand_53 ?_
      refine lv_land hx hb dX8_operand_56 ?_
      refine lv_topl (fun x_9 ex_9 => ?_)
      refine va_put (D := D) (ci := 8) (v := .long x_9) (ty := .long) (C := RX8) (T := TX8) (N := 31) hx hb hts iX8_operand_X8 tyX8 tyX8_ok nmX8 hown hK hP hD hS 0 rfl rfl 21 (by decide) (hts (.fieldLink RX8 145 "TapeCalculatorModel" "size" "J") (List.mem_of_getElem? (i := 7) rfl)) (fun _ h9 => h9) rfl (by decide +kernel) rfl rfl (Nat.le_of_ble_eq_true rfl) dX8_operand_57 (fun H locs hP hD hS => ?_)
      have hP : va_P D vwCl [(m0, .inr (8, [.ref mH, .int aM, .long aC, .int mM, .long mQ, .int oV, .int pL, .int lI, .int sW, .int dP, .int sT, .long aT, .int cH, .int iW, .ref mI, .ref mJ, .ref mS, .ref mD, .int iH, .int aE, .int 1, .long x_9, .ref mX, .int tS, .int tA, .int tW, .ref mA, .ref mB, .ref mW, .ref mL, .int lS])), (mH, .inl (cI, 512, .inl fH))] H := hP
      have hD : va_D A [(m0, .inr (8, [.ref mH, .int aM, .long aC, .int mM, .long mQ, .int oV, .int pL, .int lI, .int sW, .int dP, .int sT, .long aT, .int cH, .int iW, .ref mI, .ref mJ, .ref mS, .ref mD, .int iH, .int aE, .int 1, .long x_9, .ref mX, .int tS, .int tA, .int tW, .ref mA, .ref mB, .ref mW, .ref mL, .int lS])), (mH, .inl (cI, 512, .inl fH))] := hD
      refine kVret (u := (1, x_9)) hx hb hr hlocks hS dX8_operand_60 ?_ (hP.sub [0, 1] rfl) (hD.sub [0, 1] (by decide) rfl)
      try dsimp only
      repeat' (with_reducible apply And.intro)
      all_goals first | with_reducible assumption | ((try simp only [jT_, jP_, jD_, jC_, jB_, jW_, Int32.reduceToInt, Int64.reduceToInt, true_or, or_true, true_and, and_true]) <;> omega)
set_option maxRecDepth 100000 in
theorem iX8_operandBits_X8 : ∀ w ∈ wsX80, w ∈ wsX8_operandBits := fun w h => (goodIn_r (big := wsX8_operandBits) wsX80 [9, 10, 11, 12, 13, 14, 15, 16, 17, 18, 19, 20, 21, 22, 23, 24, 25, 26, 27, 28, 29, 30, 31, 32, 33, 34, 35, 36, 37, 38, 39] rfl (by decide +kernel) w h).1
set_option maxRecDepth 100000 in
set_option maxHeartbeats 4000000 in
theorem q_operandBits (l : Launch) (D : va_G) (cI cL cB cZ cT : ClassId) (sz : Nat) (m0 mH mI mJ mS mD mX mA mB mW mL : Nat) (aM : Int32) (aC : Int64) (mM : Int32) (mQ : Int64) (oV pL lI sW dP sT : Int32) (aT : Int64) (cH iW iH aE mN : Int32) (sZ : Int64) (tS tA tW lS : Int32) (fH : Nat → Int32) (had : 0 ≤ aE.toInt ∧ aE.toInt ≤ 511 ∧ (iH.toInt = 0 ∨ aE.toInt ≤ 510)) : kM (S := Unit) l yX8_operandBits wsX8_operandBits ({ frames := 1, cells := 0, slots := 0, locals := 21 }) D (kT cI cL cB cZ cT) [.ref m0] [(m0, .inr (8, [.ref mH, .int aM, .long aC, .int mM, .long mQ, .int oV, .int pL, .int lI, .int sW, .int dP, .int sT, .long aT, .int cH, .int iW, .ref mI, .ref mJ, .ref mS, .ref mD, .int iH, .int aE, .int mN, .long sZ, .ref mX, .int tS, .int tA, .int tW, .ref mA, .ref mB, .ref mW, .ref mL, .int lS])), (mH, .inl (cI, 512, .inl fH))] sz eL (fun _ _ => True) (fun _ => [(m0, .inr (8, [.ref mH, .int aM, .long aC, .int mM, .long mQ, .int oV, .int pL, .int lI, .int sW, .int dP, .int sT, .long aT, .int cH, .int iW, .ref mI, .ref mJ, .ref mS, .ref mD, .int iH, .int aE, .int mN, .long sZ, .ref mX, .int tS, .int tA, .int tW, .ref mA, .ref mB, .ref mW, .ref mL, .int lS])), (mH, .inl (cI, 512, .inl fH))]) 0 0 := by
  refine kStart (cc := cX8_operandBits) (maxL := 1) (ret := (some .long)) (own := RX8) (by decide) rfl rfl (Nat.le_of_ble_eq_true rfl) ?_
  intro p e s m args below meth c A ls hx hb hr hml hown hts hlocks hnm hsz hA hG hP hD hS hl
  have hK := hG.1
  have hl : lv_has ls 1 [(0, .ref m0)] := hl
  refine lv_aload_n hx hb dX8_operandBits_0 rfl (lv_at hl 0 rfl) ?_
  refine va_get (D := D) (ci := 8) (v := .int iH) (C := RX8) (T := TX8) (N := 31) hx hb hts iX8_operandBits_X8 hown hK hP 0 rfl rfl 18 (by decide) (hts (.fieldLink RX8 134 "TapeCalculatorModel" "isWhole" "Z") (List.mem_of_getElem? (i := 1) rfl)) (fun _ h9 => h9) rfl dX8_operandBits_1 ?_
  refine lv_if_eq (tgt := 18) hx hb dX8_operandBits_4 (by decide) (fun c_4_0 => ?_) (fun c_4_0 => ?_)
  · have t_4_0 := c_4_0
    try simp only [kb_eq0, kb_ne0, lg_cmp_lt, lg_cmp_le, lg_cmp_gt, lg_cmp_ge, lg_cmp_eq] at t_4_0
    try simp only [Int32.lt_iff_toInt_lt, Int32.le_iff_toInt_le, ← Int32.toInt_inj, Int64.lt_iff_toInt_lt, Int64.le_iff_toInt_le, ← Int64.toInt_inj, Int32.toInt_toInt64, Int32.reduceToInt, Int64.reduceToInt] at t_4_0
    refine lv_aload_n hx hb dX8_operandBits_18 rfl (lv_at hl 0 rfl) ?_
    refine va_get (D := D) (ci := 8) (v := .ref mH) (C := RX8) (T := TX8) (N := 31) hx hb hts iX8_operandBits_X8 hown hK hP 0 rfl rfl 0 (by decide) (hts (.fieldLink RX8 7 "TapeCalculatorModel" "half" "[I") (List.mem_of_getElem? (i := 3) rfl)) (fun _ h9 => h9) rfl dX8_operandBits_19 ?_
    refine lv_aload_n hx hb dX8_operandBits_22 rfl (lv_at hl 0 rfl) ?_
    refine va_get (D := D) (ci := 8) (v := .int aE) (C := RX8) (T := TX8) (N := 31) hx hb hts iX8_operandBits_X8 hown hK hP 0 rfl rfl 19 (by decide) (hts (.fieldLink RX8 137 "TapeCalculatorModel" "address" "I") (List.mem_of_getElem? (i := 2) rfl)) (fun _ h9 => h9) rfl dX8_operandBits_23 ?_
    refine va_iald hx hb hK hP 1 0 rfl rfl (vp_in_iff.mpr (by omega)) dX8_operandBits_26 ?_
    refine lv_i2l hx hb dX8_operandBits_27 rfl ?_
    refine lv_bipush (v := 18) hx hb dX8_operandBits_28 (by decide) ?_
    refine lv_lshl hx hb dX8_operandBits_30 rfl ?_
    refine kLret (u := ()) hx hb hr hlocks hS dX8_operandBits_31 ?_ (hP.sub [0, 1] rfl) (hD.sub [0, 1] (by decide) rfl)
    exact trivial
  · have t_4_0 := c_4_0
    try simp only [kb_eq0, kb_ne0, lg_cmp_lt, lg_cmp_le, lg_cmp_gt, lg_cmp_ge, lg_cmp_eq] at t_4_0
    try simp only [Int32.lt_iff_toInt_lt, Int32.le_iff_toInt_le, ← Int32.toInt_inj, Int64.lt_iff_toInt_lt, Int64.le_iff_toInt_le, ← Int64.toInt_inj, Int32.toInt_toInt64, Int32.reduceToInt, Int64.reduceToInt] at t_4_0
    refine lv_aload_n hx hb dX8_operandBits_7 rfl (lv_at hl 0 rfl) ?_
    refine lv_aload_n hx hb dX8_operandBits_8 rfl (lv_at hl 0 rfl) ?_
    refine va_get (D := D) (ci := 8) (v := .int aE) (C := RX8) (T := TX8) (N := 31) hx hb hts iX8_operandBits_X8 hown hK hP 0 rfl rfl 19 (by decide) (hts (.fieldLink RX8 137 "TapeCalculatorModel" "address" "I") (List.mem_of_getElem? (i := 2) rfl)) (fun _ h9 => h9) rfl dX8_operandBits_9 ?_
    refine kCallL (wr := []) (va_runV (As := [.int aE]) (rest := []) ⟨hx, hb, hml, hown, hts⟩ (q_wholeAt l D cI cL cB cZ cT _ m0 mH mI mJ mS mD mX mA mB mW mL aM aC mM mQ oV pL lI sW dP sT aT cH iW iH aE mN sZ tS tA tW lS fH aE (vp_in_iff.mpr (by omega)) (k_in1 (by omega))) (cwV 1 hts gX8_operandBits_X8_wholeAt rfl rfl rfl (by decide +kernel) ⟨Nat.le_of_ble_eq_true rfl, Nat.le_of_ble_eq_true rfl⟩) (kPreV hG hP hD [0, 1] rfl (by decide) 0 8 rfl rfl rfl) rfl rfl hl.1 rfl (lv_room (Nat.le_of_ble_eq_true rfl)) dX8_operandBits_12 ⟨Nat.le_of_ble_eq_true rfl, Nat.le_of_ble_eq_true rfl⟩) hA hP hD hS [0, 1] [] rfl rfl (by decide) (by decide) (fun r_2 u_r_2 H locs wr_2 hP hD hS => ?_)
    have hP : va_P D vwCl [(m0, .inr (8, [.ref mH, .int aM, .long aC, .int mM, .long mQ, .int oV, .int pL, .int lI, .int sW, .int dP, .int sT, .long aT, .int cH, .int iW, .ref mI, .ref mJ, .ref mS, .ref mD, .int iH, .int aE, .int mN, .long sZ, .ref mX, .int tS, .int tA, .int tW, .ref mA, .ref mB, .ref mW, .ref mL, .int lS])), (mH, .inl (cI, 512, .inl fH))] H := hP
    have hD : va_D A [(m0, .inr (8, [.ref mH, .int aM, .long aC, .int mM, .long mQ, .int oV, .int pL, .int lI, .int sW, .int dP, .int sT, .long aT, .int cH, .int iW, .ref mI, .ref mJ, .ref mS, .ref mD, .int iH, .int aE, .int mN, .long sZ, .ref mX, .int tS, .int tA, .int tW, .ref mA, .ref mB, .ref mW, .ref mL, .int lS])), (mH, .inl (cI, 512, .inl fH))] := hD
    try dsimp only at wr_2
    try simp only [Int32.reduceToInt, Int64.reduceToInt] at wr_2
    refine lv_goto (tgt := 31) hx hb dX8_operandBits_15 (by decide) ?_
    refine kLret (u := ()) hx hb hr hlocks hS dX8_operandBits_31 ?_ (hP.sub [0, 1] rfl) (hD.sub [0, 1] (by decide) rfl)
    exact trivial
set_option maxRecDepth 100000 in
theorem iX8_store_X8 : ∀ w ∈ wsX80, w ∈ wsX8_store := fun w h => (goodIn_r (big := wsX8_store) wsX80 [10, 11, 12, 13, 14, 15, 16, 17, 18, 19, 20, 21, 22, 23, 24, 25, 26, 27, 28, 29, 30, 31, 32, 33, 34, 35, 36, 37, 38, 39, 40] rfl (by decide +kernel) w h).1
set_option maxRecDepth 100000 in
set_option maxHeartbeats 4000000 in
theorem q_store (l : Launch) (D : va_G) (cI cL cB cZ cT : ClassId) (sz : Nat) (m0 mH mI mJ mS mD mX mA mB mW mL : Nat) (aM : Int32) (aC : Int64) (mM : Int32) (mQ : Int64) (oV pL lI sW dP sT : Int32) (aT : Int64) (cH iW iH aE mN : Int32) (sZ : Int64) (tS tA tW lS : Int32) (fH : Nat → Int32) (v : Int64) (had : 0 ≤ aE.toInt ∧ aE.toInt ≤ 511 ∧ (iH.toInt = 0 ∨ aE.toInt ≤ 510)) : kM (S := ((Nat → Int32))) l yX8_store wsX8_store ({ frames := 1, cells := 0, slots := 0, locals := 23 }) D (kT cI cL cB cZ cT) [.ref m0, .long v] [(m0, .inr (8, [.ref mH, .int aM, .long aC, .int mM, .long mQ, .int oV, .int pL, .int lI, .int sW, .int dP, .int sT, .long aT, .int cH, .int iW, .ref mI, .ref mJ, .ref mS, .ref mD, .int iH, .int aE, .int mN, .long sZ, .ref mX, .int tS, .int tA, .int tW, .ref mA, .ref mB, .ref mW, .ref mL, .int lS])), (mH, .inl (cI, 512, .inl fH))] sz eV (fun _ _ => True) (fun u => [(m0, .inr (8, [.ref mH, .int aM, .long aC, .int mM, .long mQ, .int oV, .int pL, .int lI, .int sW, .int dP, .int sT, .long aT, .int cH, .int iW, .ref mI, .ref mJ, .ref mS, .ref mD, .int iH, .int aE, .int mN, .long sZ, .ref mX, .int tS, .int tA, .int tW, .ref mA, .ref mB, .ref mW, .ref mL, .int lS])), (mH, .inl (cI, 512, .inl u))]) 0 0 := by
  refine kStart (cc := cX8_store) (maxL := 3) (ret := none) (own := RX8) (by decide) rfl rfl (Nat.le_of_ble_eq_true rfl) ?_
  intro p e s m args below meth c A ls hx hb hr hml hown hts hlocks hnm hsz hA hG hP hD hS hl
  have hK := hG.1
  have hl : lv_has ls 3 [(0, .ref m0), (1, .long v)] := hl
  refine lv_aload_n hx hb dX8_store_0 rfl (lv_at hl 0 rfl) ?_
  refine va_get (D := D) (ci := 8) (v := .int iH) (C := RX8) (T := TX8) (N := 31) hx hb hts iX8_store_X8 hown hK hP 0 rfl rfl 18 (by decide) (hts (.fieldLink RX8 134 "TapeCalculatorModel" "isWhole" "Z") (List.mem_of_getElem? (i := 1) rfl)) (fun _ h9 => h9) rfl dX8_store_1 ?_
  refine lv_if_eq (tgt := 19) hx hb dX8_store_4 (by decide) (fun c_4_0 => ?_) (fun c_4_0 => ?_)
  · have t_4_0 := c_4_0
    try simp only [kb_eq0, kb_ne0, lg_cmp_lt, lg_cmp_le, lg_cmp_gt, lg_cmp_ge, lg_cmp_eq] at t_4_0
    try simp only [Int32.lt_iff_toInt_lt, Int32.le_iff_toInt_le, ← Int32.toInt_inj, Int64.lt_iff_toInt_lt, Int64.le_iff_toInt_le, ← Int64.toInt_inj, Int32.toInt_toInt64, Int32.reduceToInt, Int64.reduceToInt] at t_4_0
    refine lv_aload_n hx hb dX8_store_19 rfl (lv_at hl 0 rfl) ?_
    refine va_get (D := D) (ci := 8) (v := .ref mH) (C := RX8) (T := TX8) (N := 31) hx hb hts iX8_store_X8 hown hK hP 0 rfl rfl 0 (by decide) (hts (.fieldLink RX8 7 "TapeCalculatorModel" "half" "[I") (List.mem_of_getElem? (i := 3) rfl)) (fun _ h9 => h9) rfl dX8_store_20 ?_
    refine lv_aload_n hx hb dX8_store_23 rfl (lv_at hl 0 rfl) ?_
    refine va_get (D := D) (ci := 8) (v := .int aE) (C := RX8) (T := TX8) (N := 31) hx hb hts iX8_store_X8 hown hK hP 0 rfl rfl 19 (by decide) (hts (.fieldLink RX8 137 "TapeCalculatorModel" "address" "I") (List.mem_of_getElem? (i := 2) rfl)) (fun _ h9 => h9) rfl dX8_store_24 ?_
    refine lv_lload_n hx hb dX8_store_27 rfl (lv_at hl 1 rfl) ?_
    refine lv_bipush (v := 18) hx hb dX8_store_28 (by decide) ?_
    refine lv_lshr hx hb dX8_store_30 rfl ?_
    refine lv_ldc2 (v := 262143) hx hb hown (hts (.constantLong RX8 53 (262143)) (List.mem_of_getElem? (i := 4) rfl)) dX8_store_31 ?_
    refine lv_land hx hb dX8_store_34 ?_
    refine lv_l2i hx hb dX8_store_35 rfl ?_
    refine va_iast hx hb hK hP hD hS 1 0 rfl rfl (vp_in_iff.mpr (by omega)) dX8_store_36 (fun H locs hP hD hS => ?_)
    have hP : va_P D vwCl [(m0, .inr (8, [.ref mH, .int aM, .long aC, .int mM, .long mQ, .int oV, .int pL, .int lI, .int sW, .int dP, .int sT, .long aT, .int cH, .int iW, .ref mI, .ref mJ, .ref mS, .ref mD, .int iH, .int aE, .int mN, .long sZ, .ref mX, .int tS, .int tA, .int tW, .ref mA, .ref mB, .ref mW, .ref mL, .int lS])), (mH, .inl (cI, 512, .inl (upd fH aE.toNatClampNeg ((v >>> ((18 : Int32).toInt64 &&& 63)) &&& 262143).toInt32)))] H := hP
    have hD : va_D A [(m0, .inr (8, [.ref mH, .int aM, .long aC, .int mM, .long mQ, .int oV, .int pL, .int lI, .int sW, .int dP, .int sT, .long aT, .int cH, .int iW, .ref mI, .ref mJ, .ref mS, .ref mD, .int iH, .int aE, .int mN, .long sZ, .ref mX, .int tS, .int tA, .int tW, .ref mA, .ref mB, .ref mW, .ref mL, .int lS])), (mH, .inl (cI, 512, .inl (upd fH aE.toNatClampNeg ((v >>> ((18 : Int32).toInt64 &&& 63)) &&& 262143).toInt32)))] := hD
    refine kVret (u := (upd fH aE.toNatClampNeg ((v >>> ((18 : Int32).toInt64 &&& 63)) &&& 262143).toInt32)) hx hb hr hlocks hS dX8_store_37 ?_ (hP.sub [0, 1] rfl) (hD.sub [0, 1] (by decide) rfl)
    exact trivial
  · have t_4_0 := c_4_0
    try simp only [kb_eq0, kb_ne0, lg_cmp_lt, lg_cmp_le, lg_cmp_gt, lg_cmp_ge, lg_cmp_eq] at t_4_0
    try simp only [Int32.lt_iff_toInt_lt, Int32.le_iff_toInt_le, ← Int32.toInt_inj, Int64.lt_iff_toInt_lt, Int64.le_iff_toInt_le, ← Int64.toInt_inj, Int32.toInt_toInt64, Int32.reduceToInt, Int64.reduceToInt] at t_4_0
    refine lv_aload_n hx hb dX8_store_7 rfl (lv_at hl 0 rfl) ?_
    refine lv_aload_n hx hb dX8_store_8 rfl (lv_at hl 0 rfl) ?_
    refine va_get (D := D) (ci := 8) (v := .int aE) (C := RX8) (T := TX8) (N := 31) hx hb hts iX8_store_X8 hown hK hP 0 rfl rfl 19 (by decide) (hts (.fieldLink RX8 137 "TapeCalculatorModel" "address" "I") (List.mem_of_getElem? (i := 2) rfl)) (fun _ h9 => h9) rfl dX8_store_9 ?_
    refine lv_lload_n hx hb dX8_store_12 rfl (lv_at hl 1 rfl) ?_
    refine kCallVd (wr := []) (va_runV (As := [.int aE, .long v]) (rest := []) ⟨hx, hb, hml, hown, hts⟩ (q_putWhole l D cI cL cB cZ cT _ m0 mH mI mJ mS mD mX mA mB mW mL aM aC mM mQ oV pL lI sW dP sT aT cH iW iH aE mN sZ tS tA tW lS fH aE v (vp_in_iff.mpr (by omega)) (k_in1 (by omega))) (cwV 2 hts gX8_store_X8_putWhole rfl rfl rfl (by decide +kernel) ⟨Nat.le_of_ble_eq_true rfl, Nat.le_of_ble_eq_true rfl⟩) (kPreV hG hP hD [0, 1] rfl (by decide) 0 8 rfl rfl rfl) rfl rfl hl.1 rfl (lv_room (Nat.le_of_ble_eq_true rfl)) dX8_store_13 ⟨Nat.le_of_ble_eq_true rfl, Nat.le_of_ble_eq_true rfl⟩) hA hP hD hS [0, 1] [] rfl rfl (by decide) (by decide) (fun _ u_r_2 H locs wr_2 hP hD hS => ?_)
    have hP : va_P D vwCl [(m0, .inr (8, [.ref mH, .int aM, .long aC, .int mM, .long mQ, .int oV, .int pL, .int lI, .int sW, .int dP, .int sT, .long aT, .int cH, .int iW, .ref mI, .ref mJ, .ref mS, .ref mD, .int iH, .int aE, .int mN, .long sZ, .ref mX, .int tS, .int tA, .int tW, .ref mA, .ref mB, .ref mW, .ref mL, .int lS])), (mH, .inl (cI, 512, .inl u_r_2))] H := hP
    have hD : va_D A [(m0, .inr (8, [.ref mH, .int aM, .long aC, .int mM, .long mQ, .int oV, .int pL, .int lI, .int sW, .int dP, .int sT, .long aT, .int cH, .int iW, .ref mI, .ref mJ, .ref mS, .ref mD, .int iH, .int aE, .int mN, .long sZ, .ref mX, .int tS, .int tA, .int tW, .ref mA, .ref mB, .ref mW, .ref mL, .int lS])), (mH, .inl (cI, 512, .inl u_r_2))] := hD
    try dsimp only at wr_2
    try simp only [Int32.reduceToInt, Int64.reduceToInt] at wr_2
    refine lv_goto (tgt := 37) hx hb dX8_store_16 (by decide) ?_
    refine kVret (u := u_r_2) hx hb hr hlocks hS dX8_store_37 ?_ (hP.sub [0, 1] rfl) (hD.sub [0, 1] (by decide) rfl)
    exact trivial
set_option maxRecDepth 100000 in
set_option maxHeartbeats 4000000 in
theorem q_bits (l : Launch) (D : va_G) (cI cL cB cZ cT : ClassId) (sz : Nat) (a : Int32) (v : Int64) : kM (S := Unit) l yX8_bits wsX8_bits ({ frames := 0, cells := 0, slots := 0, locals := 0 }) D (kT cI cL cB cZ cT) [.int a, .long v] [] sz eL (fun _ _ => True) (fun _ => []) 0 0 := by
  refine kStart (cc := cX8_bits) (maxL := 3) (ret := (some .long)) (own := RX8) (by decide) rfl rfl (Nat.le_of_ble_eq_true rfl) ?_
  intro p e s m args below meth c A ls hx hb hr hml hown hts hlocks hnm hsz hA hG hP hD hS hl
  have hK := hG.1
  have hl : lv_has ls 3 [(0, .int a), (1, .long v)] := hl
  refine lv_iload_n hx hb dX8_bits_0 rfl (lv_at hl 0 rfl) ?_
  refine lv_if_eq (tgt := 10) hx hb dX8_bits_1 (by decide) (fun c_1_0 => ?_) (fun c_1_0 => ?_)
  · have t_1_0 := c_1_0
    try simp only [kb_eq0, kb_ne0, lg_cmp_lt, lg_cmp_le, lg_cmp_gt, lg_cmp_ge, lg_cmp_eq] at t_1_0
    try simp only [Int32.lt_iff_toInt_lt, Int32.le_iff_toInt_le, ← Int32.toInt_inj, Int64.lt_iff_toInt_lt, Int64.le_iff_toInt_le, ← Int64.toInt_inj, Int32.toInt_toInt64, Int32.reduceToInt, Int64.reduceToInt] at t_1_0
    refine lv_lconst (v := 0) hx hb dX8_bits_10 (by decide) ?_
    refine lv_lload_n hx hb dX8_bits_11 rfl (lv_at hl 1 rfl) ?_
    refine lv_ldc2 (v := 34359738367) hx hb hown (hts (.constantLong RX8 92 (34359738367)) (List.mem_of_getElem? (i := 2) rfl)) dX8_bits_12 ?_
    refine lv_land hx hb dX8_bits_15 ?_
    refine lv_lor hx hb dX8_bits_16 ?_
    refine kLret (u := ()) hx hb hr hlocks hS dX8_bits_17 ?_ (hP.sub [] rfl) (hD.sub [] (by decide) rfl)
    exact trivial
  · have t_1_0 := c_1_0
    try simp only [kb_eq0, kb_ne0, lg_cmp_lt, lg_cmp_le, lg_cmp_gt, lg_cmp_ge, lg_cmp_eq] at t_1_0
    try simp only [Int32.lt_iff_toInt_lt, Int32.le_iff_toInt_le, ← Int32.toInt_inj, Int64.lt_iff_toInt_lt, Int64.le_iff_toInt_le, ← Int64.toInt_inj, Int32.toInt_toInt64, Int32.reduceToInt, Int64.reduceToInt] at t_1_0
    refine lv_ldc2 (v := 34359738368) hx hb hown (hts (.constantLong RX8 140 (34359738368)) (List.mem_of_getElem? (i := 1) rfl)) dX8_bits_4 ?_
    refine lv_goto (tgt := 11) hx hb dX8_bits_7 (by decide) ?_
    refine lv_lload_n hx hb dX8_bits_11 rfl (lv_at hl 1 rfl) ?_
    refine lv_ldc2 (v := 34359738367) hx hb hown (hts (.constantLong RX8 92 (34359738367)) (List.mem_of_getElem? (i := 2) rfl)) dX8_bits_12 ?_
    refine lv_land hx hb dX8_bits_15 ?_
    refine lv_lor hx hb dX8_bits_16 ?_
    refine kLret (u := ()) hx hb hr hlocks hS dX8_bits_17 ?_ (hP.sub [] rfl) (hD.sub [] (by decide) rfl)
    exact trivial
set_option maxRecDepth 100000 in
theorem iX8_more_X8 : ∀ w ∈ wsX80, w ∈ wsX8_more := fun w h => (goodIn_r (big := wsX8_more) wsX80 [6, 7, 8, 9, 10, 11, 12, 13, 14, 15, 16, 17, 18, 19, 20, 21, 22, 23, 24, 25, 26, 27, 28, 29, 30, 31, 32, 33, 34, 35, 36] rfl (by decide +kernel) w h).1
set_option maxRecDepth 100000 in
set_option maxHeartbeats 4000000 in
theorem q_more (l : Launch) (D : va_G) (cI cL cB cZ cT : ClassId) (sz : Nat) (m0 mH mI mJ mS mD mX mA mB mW mL : Nat) (aM : Int32) (aC : Int64) (mM : Int32) (mQ : Int64) (oV pL lI sW dP sT : Int32) (aT : Int64) (cH iW iH aE mN : Int32) (sZ : Int64) (tS tA tW lS : Int32) (v : Int64) : kM (S := (Int64 × Int32)) l yX8_more wsX8_more ({ frames := 0, cells := 0, slots := 0, locals := 0 }) D (kT cI cL cB cZ cT) [.ref m0, .long v] [(m0, .inr (8, [.ref mH, .int aM, .long aC, .int mM, .long mQ, .int oV, .int pL, .int lI, .int sW, .int dP, .int sT, .long aT, .int cH, .int iW, .ref mI, .ref mJ, .ref mS, .ref mD, .int iH, .int aE, .int mN, .long sZ, .ref mX, .int tS, .int tA, .int tW, .ref mA, .ref mB, .ref mW, .ref mL, .int lS]))] sz eV (fun r u => jB_ (u.2)) (fun u => [(m0, .inr (8, [.ref mH, .int aM, .long u.1, .int mM, .long mQ, .int u.2, .int pL, .int lI, .int sW, .int dP, .int sT, .long aT, .int cH, .int iW, .ref mI, .ref mJ, .ref mS, .ref mD, .int iH, .int aE, .int mN, .long sZ, .ref mX, .int tS, .int tA, .int tW, .ref mA, .ref mB, .ref mW, .ref mL, .int lS]))]) 0 0 := by
  refine kStart (cc := cX8_more) (maxL := 3) (ret := none) (own := RX8) (by decide) rfl rfl (Nat.le_of_ble_eq_true rfl) ?_
  intro p e s m args below meth c A ls hx hb hr hml hown hts hlocks hnm hsz hA hG hP hD hS hl
  have hK := hG.1
  have hl : lv_has ls 3 [(0, .ref m0), (1, .long v)] := hl
  refine lv_aload_n hx hb dX8_more_0 rfl (lv_at hl 0 rfl) ?_
  refine lv_aload_n hx hb dX8_more_1 rfl (lv_at hl 0 rfl) ?_
  refine va_get (D := D) (ci := 8) (v := .int oV) (C := RX8) (T := TX8) (N := 31) hx hb hts iX8_more_X8 hown hK hP 0 rfl rfl 5 (by decide) (hts (.fieldLink RX8 75 "TapeCalculatorModel" "over" "Z") (List.mem_of_getElem? (i := 1) rfl)) (fun _ h9 => h9) rfl dX8_more_2 ?_
  refine lv_if_ne (tgt := 29) hx hb dX8_more_5 (by decide) (fun c_5_0 => ?_) (fun c_5_0 => ?_)
  · have t_5_0 := c_5_0
    try simp only [kb_eq0, kb_ne0, lg_cmp_lt, lg_cmp_le, lg_cmp_gt, lg_cmp_ge, lg_cmp_eq] at t_5_0
    try simp only [Int32.lt_iff_toInt_lt, Int32.le_iff_toInt_le, ← Int32.toInt_inj, Int64.lt_iff_toInt_lt, Int64.le_iff_toInt_le, ← Int64.toInt_inj, Int32.toInt_toInt64, Int32.reduceToInt, Int64.reduceToInt] at t_5_0
    refine lv_iconst (v := 1) hx hb dX8_more_29 (by decide) ?_
    refine lv_goto (tgt := 34) hx hb dX8_more_30 (by decide) ?_
    refine va_put (D := D) (ci := 8) (v := .int 1) (ty := .boolean) (C := RX8) (T := TX8) (N := 31) hx hb hts iX8_more_X8 tyX8 tyX8_ok nmX8 hown hK hP hD hS 0 rfl rfl 5 (by decide) (hts (.fieldLink RX8 75 "TapeCalculatorModel" "over" "Z") (List.mem_of_getElem? (i := 1) rfl)) (fun _ h9 => h9) rfl (by decide +kernel) rfl rfl (Nat.le_of_ble_eq_true rfl) dX8_more_34 (fun H locs hP hD hS => ?_)
    have hP : va_P D vwCl [(m0, .inr (8, [.ref mH, .int aM, .long aC, .int mM, .long mQ, .int 1, .int pL, .int lI, .int sW, .int dP, .int sT, .long aT, .int cH, .int iW, .ref mI, .ref mJ, .ref mS, .ref mD, .int iH, .int aE, .int mN, .long sZ, .ref mX, .int tS, .int tA, .int tW, .ref mA, .ref mB, .ref mW, .ref mL, .int lS]))] H := hP
    have hD : va_D A [(m0, .inr (8, [.ref mH, .int aM, .long aC, .int mM, .long mQ, .int 1, .int pL, .int lI, .int sW, .int dP, .int sT, .long aT, .int cH, .int iW, .ref mI, .ref mJ, .ref mS, .ref mD, .int iH, .int aE, .int mN, .long sZ, .ref mX, .int tS, .int tA, .int tW, .ref mA, .ref mB, .ref mW, .ref mL, .int lS]))] := hD
    refine lv_aload_n hx hb dX8_more_37 rfl (lv_at hl 0 rfl) ?_
    refine lv_aload_n hx hb dX8_more_38 rfl (lv_at hl 0 rfl) ?_
    refine va_get (D := D) (ci := 8) (v := .long aC) (C := RX8) (T := TX8) (N := 31) hx hb hts iX8_more_X8 hown hK hP 0 rfl rfl 2 (by decide) (hts (.fieldLink RX8 65 "TapeCalculatorModel" "acc" "J") (List.mem_of_getElem? (i := 2) rfl)) (fun _ h9 => h9) rfl dX8_more_39 ?_
    refine lv_lload_n hx hb dX8_more_42 rfl (lv_at hl 1 rfl) ?_
    refine lv_ladd hx hb dX8_more_43 ?_
    refine lv_ldc2 (v := 137438953471) hx hb hown (hts (.constantLong RX8 90 (137438953471)) (List.mem_of_getElem? (i := 5) rfl)) dX8_more_44 ?_
    refine lv_land hx hb dX8_more_47 ?_
    refine lv_topl (fun x_2 ex_2 => ?_)
    refine va_put (D := D) (ci := 8) (v := .long x_2) (ty := .long) (C := RX8) (T := TX8) (N := 31) hx hb hts iX8_more_X8 tyX8 tyX8_ok nmX8 hown hK hP hD hS 0 rfl rfl 2 (by decide) (hts (.fieldLink RX8 65 "TapeCalculatorModel" "acc" "J") (List.mem_of_getElem? (i := 2) rfl)) (fun _ h9 => h9) rfl (by decide +kernel) rfl rfl (Nat.le_of_ble_eq_true rfl) dX8_more_48 (fun H locs hP hD hS => ?_)
    have hP : va_P D vwCl [(m0, .inr (8, [.ref mH, .int aM, .long x_2, .int mM, .long mQ, .int 1, .int pL, .int lI, .int sW, .int dP, .int sT, .long aT, .int cH, .int iW, .ref mI, .ref mJ, .ref mS, .ref mD, .int iH, .int aE, .int mN, .long sZ, .ref mX, .int tS, .int tA, .int tW, .ref mA, .ref mB, .ref mW, .ref mL, .int lS]))] H := hP
    have hD : va_D A [(m0, .inr (8, [.ref mH, .int aM, .long x_2, .int mM, .long mQ, .int 1, .int pL, .int lI, .int sW, .int dP, .int sT, .long aT, .int cH, .int iW, .ref mI, .ref mJ, .ref mS, .ref mD, .int iH, .int aE, .int mN, .long sZ, .ref mX, .int tS, .int tA, .int tW, .ref mA, .ref mB, .ref mW, .ref mL, .int lS]))] := hD
    refine kVret (u := (x_2, 1)) hx hb hr hlocks hS dX8_more_51 ?_ (hP.sub [0] rfl) (hD.sub [0] (by decide) rfl)
    try dsimp only
    repeat' (with_reducible apply And.intro)
    all_goals first | with_reducible assumption | ((try simp only [jT_, jP_, jD_, jC_, jB_, jW_, Int32.reduceToInt, Int64.reduceToInt, true_or, or_true, true_and, and_true]) <;> omega)
  · have t_5_0 := c_5_0
    try simp only [kb_eq0, kb_ne0, lg_cmp_lt, lg_cmp_le, lg_cmp_gt, lg_cmp_ge, lg_cmp_eq] at t_5_0
    try simp only [Int32.lt_iff_toInt_lt, Int32.le_iff_toInt_le, ← Int32.toInt_inj, Int64.lt_iff_toInt_lt, Int64.le_iff_toInt_le, ← Int64.toInt_inj, Int32.toInt_toInt64, Int32.reduceToInt, Int64.reduceToInt] at t_5_0
    refine lv_aload_n hx hb dX8_more_8 rfl (lv_at hl 0 rfl) ?_
    refine va_get (D := D) (ci := 8) (v := .long aC) (C := RX8) (T := TX8) (N := 31) hx hb hts iX8_more_X8 hown hK hP 0 rfl rfl 2 (by decide) (hts (.fieldLink RX8 65 "TapeCalculatorModel" "acc" "J") (List.mem_of_getElem? (i := 2) rfl)) (fun _ h9 => h9) rfl dX8_more_9 ?_
    refine lv_ldc2 (v := 34359738367) hx hb hown (hts (.constantLong RX8 92 (34359738367)) (List.mem_of_getElem? (i := 3) rfl)) dX8_more_12 ?_
    refine lv_land hx hb dX8_more_15 ?_
    refine lv_lload_n hx hb dX8_more_16 rfl (lv_at hl 1 rfl) ?_
    refine lv_ldc2 (v := 34359738367) hx hb hown (hts (.constantLong RX8 92 (34359738367)) (List.mem_of_getElem? (i := 3) rfl)) dX8_more_17 ?_
    refine lv_land hx hb dX8_more_20 ?_
    refine lv_ladd hx hb dX8_more_21 ?_
    refine lv_ldc2 (v := 34359738368) hx hb hown (hts (.constantLong RX8 140 (34359738368)) (List.mem_of_getElem? (i := 4) rfl)) dX8_more_22 ?_
    refine W.lcmp hx hb dX8_more_25 ?_
    refine lv_if_lt (tgt := 33) hx hb dX8_more_26 (by decide) (fun c_26_2 => ?_) (fun c_26_2 => ?_)
    · have t_26_2 := c_26_2
      try simp only [kb_eq0, kb_ne0, lg_cmp_lt, lg_cmp_le, lg_cmp_gt, lg_cmp_ge, lg_cmp_eq] at t_26_2
      try simp only [Int32.lt_iff_toInt_lt, Int32.le_iff_toInt_le, ← Int32.toInt_inj, Int64.lt_iff_toInt_lt, Int64.le_iff_toInt_le, ← Int64.toInt_inj, Int32.toInt_toInt64, Int32.reduceToInt, Int64.reduceToInt] at t_26_2
      refine lv_iconst (v := 0) hx hb dX8_more_33 (by decide) ?_
      refine va_put (D := D) (ci := 8) (v := .int 0) (ty := .boolean) (C := RX8) (T := TX8) (N := 31) hx hb hts iX8_more_X8 tyX8 tyX8_ok nmX8 hown hK hP hD hS 0 rfl rfl 5 (by decide) (hts (.fieldLink RX8 75 "TapeCalculatorModel" "over" "Z") (List.mem_of_getElem? (i := 1) rfl)) (fun _ h9 => h9) rfl (by decide +kernel) rfl rfl (Nat.le_of_ble_eq_true rfl) dX8_more_34 (fun H locs hP hD hS => ?_)
      have hP : va_P D vwCl [(m0, .inr (8, [.ref mH, .int aM, .long aC, .int mM, .long mQ, .int 0, .int pL, .int lI, .int sW, .int dP, .int sT, .long aT, .int cH, .int iW, .ref mI, .ref mJ, .ref mS, .ref mD, .int iH, .int aE, .int mN, .long sZ, .ref mX, .int tS, .int tA, .int tW, .ref mA, .ref mB, .ref mW, .ref mL, .int lS]))] H := hP
      have hD : va_D A [(m0, .inr (8, [.ref mH, .int aM, .long aC, .int mM, .long mQ, .int 0, .int pL, .int lI, .int sW, .int dP, .int sT, .long aT, .int cH, .int iW, .ref mI, .ref mJ, .ref mS, .ref mD, .int iH, .int aE, .int mN, .long sZ, .ref mX, .int tS, .int tA, .int tW, .ref mA, .ref mB, .ref mW, .ref mL, .int lS]))] := hD
      refine lv_aload_n hx hb dX8_more_37 rfl (lv_at hl 0 rfl) ?_
      refine lv_aload_n hx hb dX8_more_38 rfl (lv_at hl 0 rfl) ?_
      refine va_get (D := D) (ci := 8) (v := .long aC) (C := RX8) (T := TX8) (N := 31) hx hb hts iX8_more_X8 hown hK hP 0 rfl rfl 2 (by decide) (hts (.fieldLink RX8 65 "TapeCalculatorModel" "acc" "J") (List.mem_of_getElem? (i := 2) rfl)) (fun _ h9 => h9) rfl dX8_more_39 ?_
      refine lv_lload_n hx hb dX8_more_42 rfl (lv_at hl 1 rfl) ?_
      refine lv_ladd hx hb dX8_more_43 ?_
      refine lv_ldc2 (v := 137438953471) hx hb hown (hts (.constantLong RX8 90 (137438953471)) (List.mem_of_getElem? (i := 5) rfl)) dX8_more_44 ?_
      refine lv_land hx hb dX8_more_47 ?_
      refine lv_topl (fun x_4 ex_4 => ?_)
      refine va_put (D := D) (ci := 8) (v := .long x_4) (ty := .long) (C := RX8) (T := TX8) (N := 31) hx hb hts iX8_more_X8 tyX8 tyX8_ok nmX8 hown hK hP hD hS 0 rfl rfl 2 (by decide) (hts (.fieldLink RX8 65 "TapeCalculatorModel" "acc" "J") (List.mem_of_getElem? (i := 2) rfl)) (fun _ h9 => h9) rfl (by decide +kernel) rfl rfl (Nat.le_of_ble_eq_true rfl) dX8_more_48 (fun H locs hP hD hS => ?_)
      have hP : va_P D vwCl [(m0, .inr (8, [.ref mH, .int aM, .long x_4, .int mM, .long mQ, .int 0, .int pL, .int lI, .int sW, .int dP, .int sT, .long aT, .int cH, .int iW, .ref mI, .ref mJ, .ref mS, .ref mD, .int iH, .int aE, .int mN, .long sZ, .ref mX, .int tS, .int tA, .int tW, .ref mA, .ref mB, .ref mW, .ref mL, .int lS]))] H := hP
      have hD : va_D A [(m0, .inr (8, [.ref mH, .int aM, .long x_4, .int mM, .long mQ, .int 0, .int pL, .int lI, .int sW, .int dP, .int sT, .long aT, .int cH, .int iW, .ref mI, .ref mJ, .ref mS, .ref mD, .int iH, .int aE, .int mN, .long sZ, .ref mX, .int tS, .int tA, .int tW, .ref mA, .ref mB, .ref mW, .ref mL, .int lS]))] := hD
      refine kVret (u := (x_4, 0)) hx hb hr hlocks hS dX8_more_51 ?_ (hP.sub [0] rfl) (hD.sub [0] (by decide) rfl)
      try dsimp only
      repeat' (with_reducible apply And.intro)
      all_goals first | with_reducible assumption | ((try simp only [jT_, jP_, jD_, jC_, jB_, jW_, Int32.reduceToInt, Int64.reduceToInt, true_or, or_true, true_and, and_true]) <;> omega)
    · have t_26_2 := c_26_2
      try simp only [kb_eq0, kb_ne0, lg_cmp_lt, lg_cmp_le, lg_cmp_gt, lg_cmp_ge, lg_cmp_eq] at t_26_2
      try simp only [Int32.lt_iff_toInt_lt, Int32.le_iff_toInt_le, ← Int32.toInt_inj, Int64.lt_iff_toInt_lt, Int64.le_iff_toInt_le, ← Int64.toInt_inj, Int32.toInt_toInt64, Int32.reduceToInt, Int64.reduceToInt] at t_26_2
      refine lv_iconst (v := 1) hx hb dX8_more_29 (by decide) ?_
      refine lv_goto (tgt := 34) hx hb dX8_more_30 (by decide) ?_
      refine va_put (D := D) (ci := 8) (v := .int 1) (ty := .boolean) (C := RX8) (T := TX8) (N := 31) hx hb hts iX8_more_X8 tyX8 tyX8_ok nmX8 hown hK hP hD hS 0 rfl rfl 5 (by decide) (hts (.fieldLink RX8 75 "TapeCalculatorModel" "over" "Z") (List.mem_of_getElem? (i := 1) rfl)) (fun _ h9 => h9) rfl (by decide +kernel) rfl rfl (Nat.le_of_ble_eq_true rfl) dX8_more_34 (fun H locs hP hD hS => ?_)
      have hP : va_P D vwCl [(m0, .inr (8, [.ref mH, .int aM, .long aC, .int mM, .long mQ, .int 1, .int pL, .int lI, .int sW, .int dP, .int sT, .long aT, .int cH, .int iW, .ref mI, .ref mJ, .ref mS, .ref mD, .int iH, .int aE, .int mN, .long sZ, .ref mX, .int tS, .int tA, .int tW, .ref mA, .ref mB, .ref mW, .ref mL, .int lS]))] H := hP
      have hD : va_D A [(m0, .inr (8, [.ref mH, .int aM, .long aC, .int mM, .long mQ, .int 1, .int pL, .int lI, .int sW, .int dP, .int sT, .long aT, .int cH, .int iW, .ref mI, .ref mJ, .ref mS, .ref mD, .int iH, .int aE, .int mN, .long sZ, .ref mX, .int tS, .int tA, .int tW, .ref mA, .ref mB, .ref mW, .ref mL, .int lS]))] := hD
      refine lv_aload_n hx hb dX8_more_37 rfl (lv_at hl 0 rfl) ?_
      refine lv_aload_n hx hb dX8_more_38 rfl (lv_at hl 0 rfl) ?_
      refine va_get (D := D) (ci := 8) (v := .long aC) (C := RX8) (T := TX8) (N := 31) hx hb hts iX8_more_X8 hown hK hP 0 rfl rfl 2 (by decide) (hts (.fieldLink RX8 65 "TapeCalculatorModel" "acc" "J") (List.mem_of_getElem? (i := 2) rfl)) (fun _ h9 => h9) rfl dX8_more_39 ?_
      refine lv_lload_n hx hb dX8_more_42 rfl (lv_at hl 1 rfl) ?_
      refine lv_ladd hx hb dX8_more_43 ?_
      refine lv_ldc2 (v := 137438953471) hx hb hown (hts (.constantLong RX8 90 (137438953471)) (List.mem_of_getElem? (i := 5) rfl)) dX8_more_44 ?_
      refine lv_land hx hb dX8_more_47 ?_
      refine lv_topl (fun x_5 ex_5 => ?_)
      refine va_put (D := D) (ci := 8) (v := .long x_5) (ty := .long) (C := RX8) (T := TX8) (N := 31) hx hb hts iX8_more_X8 tyX8 tyX8_ok nmX8 hown hK hP hD hS 0 rfl rfl 2 (by decide) (hts (.fieldLink RX8 65 "TapeCalculatorModel" "acc" "J") (List.mem_of_getElem? (i := 2) rfl)) (fun _ h9 => h9) rfl (by decide +kernel) rfl rfl (Nat.le_of_ble_eq_true rfl) dX8_more_48 (fun H locs hP hD hS => ?_)
      have hP : va_P D vwCl [(m0, .inr (8, [.ref mH, .int aM, .long x_5, .int mM, .long mQ, .int 1, .int pL, .int lI, .int sW, .int dP, .int sT, .long aT, .int cH, .int iW, .ref mI, .ref mJ, .ref mS, .ref mD, .int iH, .int aE, .int mN, .long sZ, .ref mX, .int tS, .int tA, .int tW, .ref mA, .ref mB, .ref mW, .ref mL, .int lS]))] H := hP
      have hD : va_D A [(m0, .inr (8, [.ref mH, .int aM, .long x_5, .int mM, .long mQ, .int 1, .int pL, .int lI, .int sW, .int dP, .int sT, .long aT, .int cH, .int iW, .ref mI, .ref mJ, .ref mS, .ref mD, .int iH, .int aE, .int mN, .long sZ, .ref mX, .int tS, .int tA, .int tW, .ref mA, .ref mB, .ref mW, .ref mL, .int lS]))] := hD
      refine kVret (u := (x_5, 1)) hx hb hr hlocks hS dX8_more_51 ?_ (hP.sub [0] rfl) (hD.sub [0] (by decide) rfl)
      try dsimp only
      repeat' (with_reducible apply And.intro)
      all_goals first | with_reducible assumption | ((try simp only [jT_, jP_, jD_, jC_, jB_, jW_, Int32.reduceToInt, Int64.reduceToInt, true_or, or_true, true_and, and_true]) <;> omega)
set_option maxRecDepth 100000 in
theorem iX8_add_X8 : ∀ w ∈ wsX80, w ∈ wsX8_add := fun w h => (goodIn_r (big := wsX8_add) wsX80 [12, 13, 14, 15, 16, 17, 18, 19, 20, 21, 22, 23, 24, 25, 26, 27, 28, 29, 30, 31, 32, 33, 34, 35, 36, 37, 38, 39, 40, 41, 42] rfl (by decide +kernel) w h).1
set_option maxRecDepth 100000 in
set_option maxHeartbeats 4000000 in
theorem q_add (l : Launch) (D : va_G) (cI cL cB cZ cT : ClassId) (sz : Nat) (m0 mH mI mJ mS mD mX mA mB mW mL : Nat) (aM : Int32) (aC : Int64) (mM : Int32) (mQ : Int64) (oV pL lI sW dP sT : Int32) (aT : Int64) (cH iW iH aE mN : Int32) (sZ : Int64) (tS tA tW lS : Int32) (z : Int32) (v : Int64) (haM : jB_ aM) (hoV : jB_ oV) (hz : jB_ z) : kM (S := (Int32 × Int64 × Int32)) l yX8_add wsX8_add ({ frames := 1, cells := 0, slots := 0, locals := 22 }) D (kT cI cL cB cZ cT) [.ref m0, .int z, .long v] [(m0, .inr (8, [.ref mH, .int aM, .long aC, .int mM, .long mQ, .int oV, .int pL, .int lI, .int sW, .int dP, .int sT, .long aT, .int cH, .int iW, .ref mI, .ref mJ, .ref mS, .ref mD, .int iH, .int aE, .int mN, .long sZ, .ref mX, .int tS, .int tA, .int tW, .ref mA, .ref mB, .ref mW, .ref mL, .int lS]))] sz eV (fun r u => jB_ (u.1) ∧ jB_ (u.2.2)) (fun u => [(m0, .inr (8, [.ref mH, .int u.1, .long u.2.1, .int mM, .long mQ, .int u.2.2, .int pL, .int lI, .int sW, .int dP, .int sT, .long aT, .int cH, .int iW, .ref mI, .ref mJ, .ref mS, .ref mD, .int iH, .int aE, .int mN, .long sZ, .ref mX, .int tS, .int tA, .int tW, .ref mA, .ref mB, .ref mW, .ref mL, .int lS]))]) 0 0 := by
  refine kStart (cc := cX8_add) (maxL := 4) (ret := none) (own := RX8) (by decide) rfl rfl (Nat.le_of_ble_eq_true rfl) ?_
  intro p e s m args below meth c A ls hx hb hr hml hown hts hlocks hnm hsz hA hG hP hD hS hl
  have hK := hG.1
  have hl : lv_has ls 4 [(0, .ref m0), (1, .int z), (2, .long v)] := hl
  refine lv_iload_n hx hb dX8_add_0 rfl (lv_at hl 1 rfl) ?_
  refine lv_aload_n hx hb dX8_add_1 rfl (lv_at hl 0 rfl) ?_
  refine va_get (D := D) (ci := 8) (v := .int aM) (C := RX8) (T := TX8) (N := 31) hx hb hts iX8_add_X8 hown hK hP 0 rfl rfl 1 (by decide) (hts (.fieldLink RX8 61 "TapeCalculatorModel" "accMinus" "Z") (List.mem_of_getElem? (i := 1) rfl)) (fun _ h9 => h9) rfl dX8_add_2 ?_
  refine lv_icmp_ne (tgt := 16) hx hb dX8_add_5 (by decide) (fun c_5_0 => ?_) (fun c_5_0 => ?_)
  · have t_5_0 := c_5_0
    try simp only [kb_eq0, kb_ne0, lg_cmp_lt, lg_cmp_le, lg_cmp_gt, lg_cmp_ge, lg_cmp_eq] at t_5_0
    try simp only [Int32.lt_iff_toInt_lt, Int32.le_iff_toInt_le, ← Int32.toInt_inj, Int64.lt_iff_toInt_lt, Int64.le_iff_toInt_le, ← Int64.toInt_inj, Int32.toInt_toInt64, Int32.reduceToInt, Int64.reduceToInt] at t_5_0
    refine lv_lload_n hx hb dX8_add_16 rfl (lv_at hl 2 rfl) ?_
    refine lv_aload_n hx hb dX8_add_17 rfl (lv_at hl 0 rfl) ?_
    refine va_get (D := D) (ci := 8) (v := .long aC) (C := RX8) (T := TX8) (N := 31) hx hb hts iX8_add_X8 hown hK hP 0 rfl rfl 2 (by decide) (hts (.fieldLink RX8 65 "TapeCalculatorModel" "acc" "J") (List.mem_of_getElem? (i := 2) rfl)) (fun _ h9 => h9) rfl dX8_add_18 ?_
    refine W.lcmp hx hb dX8_add_21 ?_
    refine lv_if_le (tgt := 43) hx hb dX8_add_22 (by decide) (fun c_22_1 => ?_) (fun c_22_1 => ?_)
    · have t_22_1 := c_22_1
      try simp only [kb_eq0, kb_ne0, lg_cmp_lt, lg_cmp_le, lg_cmp_gt, lg_cmp_ge, lg_cmp_eq] at t_22_1
      try simp only [Int32.lt_iff_toInt_lt, Int32.le_iff_toInt_le, ← Int32.toInt_inj, Int64.lt_iff_toInt_lt, Int64.le_iff_toInt_le, ← Int64.toInt_inj, Int32.toInt_toInt64, Int32.reduceToInt, Int64.reduceToInt] at t_22_1
      refine lv_aload_n hx hb dX8_add_43 rfl (lv_at hl 0 rfl) ?_
      refine lv_aload_n hx hb dX8_add_44 rfl (lv_at hl 0 rfl) ?_
      refine va_get (D := D) (ci := 8) (v := .long aC) (C := RX8) (T := TX8) (N := 31) hx hb hts iX8_add_X8 hown hK hP 0 rfl rfl 2 (by decide) (hts (.fieldLink RX8 65 "TapeCalculatorModel" "acc" "J") (List.mem_of_getElem? (i := 2) rfl)) (fun _ h9 => h9) rfl dX8_add_45 ?_
      refine lv_lload_n hx hb dX8_add_48 rfl (lv_at hl 2 rfl) ?_
      refine lv_lsub hx hb dX8_add_49 ?_
      refine lv_topl (fun x_3 ex_3 => ?_)
      refine va_put (D := D) (ci := 8) (v := .long x_3) (ty := .long) (C := RX8) (T := TX8) (N := 31) hx hb hts iX8_add_X8 tyX8 tyX8_ok nmX8 hown hK hP hD hS 0 rfl rfl 2 (by decide) (hts (.fieldLink RX8 65 "TapeCalculatorModel" "acc" "J") (List.mem_of_getElem? (i := 2) rfl)) (fun _ h9 => h9) rfl (by decide +kernel) rfl rfl (Nat.le_of_ble_eq_true rfl) dX8_add_50 (fun H locs hP hD hS => ?_)
      have hP : va_P D vwCl [(m0, .inr (8, [.ref mH, .int aM, .long x_3, .int mM, .long mQ, .int oV, .int pL, .int lI, .int sW, .int dP, .int sT, .long aT, .int cH, .int iW, .ref mI, .ref mJ, .ref mS, .ref mD, .int iH, .int aE, .int mN, .long sZ, .ref mX, .int tS, .int tA, .int tW, .ref mA, .ref mB, .ref mW, .ref mL, .int lS]))] H := hP
      have hD : va_D A [(m0, .inr (8, [.ref mH, .int aM, .long x_3, .int mM, .long mQ, .int oV, .int pL, .int lI, .int sW, .int dP, .int sT, .long aT, .int cH, .int iW, .ref mI, .ref mJ, .ref mS, .ref mD, .int iH, .int aE, .int mN, .long sZ, .ref mX, .int tS, .int tA, .int tW, .ref mA, .ref mB, .ref mW, .ref mL, .int lS]))] := hD
      refine kVret (u := (aM, x_3, oV)) hx hb hr hlocks hS dX8_add_53 ?_ (hP.sub [0] rfl) (hD.sub [0] (by decide) rfl)
      try dsimp only
      repeat' (with_reducible apply And.intro)
      all_goals first | with_reducible assumption | ((try simp only [jT_, jP_, jD_, jC_, jB_, jW_, Int32.reduceToInt, Int64.reduceToInt, true_or, or_true, true_and, and_true]) <;> omega)
    · have t_22_1 := c_22_1
      try simp only [kb_eq0, kb_ne0, lg_cmp_lt, lg_cmp_le, lg_cmp_gt, lg_cmp_ge, lg_cmp_eq] at t_22_1
      try simp only [Int32.lt_iff_toInt_lt, Int32.le_iff_toInt_le, ← Int32.toInt_inj, Int64.lt_iff_toInt_lt, Int64.le_iff_toInt_le, ← Int64.toInt_inj, Int32.toInt_toInt64, Int32.reduceToInt, Int64.reduceToInt] at t_22_1
      refine lv_aload_n hx hb dX8_add_25 rfl (lv_at hl 0 rfl) ?_
      refine lv_lload_n hx hb dX8_add_26 rfl (lv_at hl 2 rfl) ?_
      refine lv_aload_n hx hb dX8_add_27 rfl (lv_at hl 0 rfl) ?_
      refine va_get (D := D) (ci := 8) (v := .long aC) (C := RX8) (T := TX8) (N := 31) hx hb hts iX8_add_X8 hown hK hP 0 rfl rfl 2 (by decide) (hts (.fieldLink RX8 65 "TapeCalculatorModel" "acc" "J") (List.mem_of_getElem? (i := 2) rfl)) (fun _ h9 => h9) rfl dX8_add_28 ?_
      refine lv_lsub hx hb dX8_add_31 ?_
      refine lv_topl (fun x_4 ex_4 => ?_)
      refine va_put (D := D) (ci := 8) (v := .long x_4) (ty := .long) (C := RX8) (T := TX8) (N := 31) hx hb hts iX8_add_X8 tyX8 tyX8_ok nmX8 hown hK hP hD hS 0 rfl rfl 2 (by decide) (hts (.fieldLink RX8 65 "TapeCalculatorModel" "acc" "J") (List.mem_of_getElem? (i := 2) rfl)) (fun _ h9 => h9) rfl (by decide +kernel) rfl rfl (Nat.le_of_ble_eq_true rfl) dX8_add_32 (fun H locs hP hD hS => ?_)
      have hP : va_P D vwCl [(m0, .inr (8, [.ref mH, .int aM, .long x_4, .int mM, .long mQ, .int oV, .int pL, .int lI, .int sW, .int dP, .int sT, .long aT, .int cH, .int iW, .ref mI, .ref mJ, .ref mS, .ref mD, .int iH, .int aE, .int mN, .long sZ, .ref mX, .int tS, .int tA, .int tW, .ref mA, .ref mB, .ref mW, .ref mL, .int lS]))] H := hP
      have hD : va_D A [(m0, .inr (8, [.ref mH, .int aM, .long x_4, .int mM, .long mQ, .int oV, .int pL, .int lI, .int sW, .int dP, .int sT, .long aT, .int cH, .int iW, .ref mI, .ref mJ, .ref mS, .ref mD, .int iH, .int aE, .int mN, .long sZ, .ref mX, .int tS, .int tA, .int tW, .ref mA, .ref mB, .ref mW, .ref mL, .int lS]))] := hD
      refine lv_aload_n hx hb dX8_add_35 rfl (lv_at hl 0 rfl) ?_
      refine lv_iload_n hx hb dX8_add_36 rfl (lv_at hl 1 rfl) ?_
      refine va_put (D := D) (ci := 8) (v := .int z) (ty := .boolean) (C := RX8) (T := TX8) (N := 31) hx hb hts iX8_add_X8 tyX8 tyX8_ok nmX8 hown hK hP hD hS 0 rfl rfl 1 (by decide) (hts (.fieldLink RX8 61 "TapeCalculatorModel" "accMinus" "Z") (List.mem_of_getElem? (i := 1) rfl)) (fun _ h9 => h9) rfl (by decide +kernel) (kz_n (k_b (by first | assumption | omega))) (kz_f (k_b (by first | assumption | omega))) (Nat.le_of_ble_eq_true rfl) dX8_add_37 (fun H locs hP hD hS => ?_)
      have hP : va_P D vwCl [(m0, .inr (8, [.ref mH, .int z, .long x_4, .int mM, .long mQ, .int oV, .int pL, .int lI, .int sW, .int dP, .int sT, .long aT, .int cH, .int iW, .ref mI, .ref mJ, .ref mS, .ref mD, .int iH, .int aE, .int mN, .long sZ, .ref mX, .int tS, .int tA, .int tW, .ref mA, .ref mB, .ref mW, .ref mL, .int lS]))] H := hP
      have hD : va_D A [(m0, .inr (8, [.ref mH, .int z, .long x_4, .int mM, .long mQ, .int oV, .int pL, .int lI, .int sW, .int dP, .int sT, .long aT, .int cH, .int iW, .ref mI, .ref mJ, .ref mS, .ref mD, .int iH, .int aE, .int mN, .long sZ, .ref mX, .int tS, .int tA, .int tW, .ref mA, .ref mB, .ref mW, .ref mL, .int lS]))] := hD
      refine lv_goto (tgt := 53) hx hb dX8_add_40 (by decide) ?_
      refine kVret (u := (z, x_4, oV)) hx hb hr hlocks hS dX8_add_53 ?_ (hP.sub [0] rfl) (hD.sub [0] (by decide) rfl)
      try dsimp only
      repeat' (with_reducible apply And.intro)
      all_goals first | with_reducible assumption | ((try simp only [jT_, jP_, jD_, jC_, jB_, jW_, Int32.reduceToInt, Int64.reduceToInt, true_or, or_true, true_and, and_true]) <;> omega)
  · have t_5_0 := c_5_0
    try simp only [kb_eq0, kb_ne0, lg_cmp_lt, lg_cmp_le, lg_cmp_gt, lg_cmp_ge, lg_cmp_eq] at t_5_0
    try simp only [Int32.lt_iff_toInt_lt, Int32.le_iff_toInt_le, ← Int32.toInt_inj, Int64.lt_iff_toInt_lt, Int64.le_iff_toInt_le, ← Int64.toInt_inj, Int32.toInt_toInt64, Int32.reduceToInt, Int64.reduceToInt] at t_5_0
    refine lv_aload_n hx hb dX8_add_8 rfl (lv_at hl 0 rfl) ?_
    refine lv_lload_n hx hb dX8_add_9 rfl (lv_at hl 2 rfl) ?_
    refine kCallVd (wr := []) (va_runV (As := [.long v]) (rest := []) ⟨hx, hb, hml, hown, hts⟩ (q_more l D cI cL cB cZ cT _ m0 mH mI mJ mS mD mX mA mB mW mL aM aC mM mQ oV pL lI sW dP sT aT cH iW iH aE mN sZ tS tA tW lS v) (cwV 1 hts gX8_add_X8_more rfl rfl rfl (by decide +kernel) ⟨Nat.le_of_ble_eq_true rfl, Nat.le_of_ble_eq_true rfl⟩) (kPreV hG hP hD [0] rfl (by decide) 0 8 rfl rfl rfl) rfl rfl hl.1 rfl (lv_room (Nat.le_of_ble_eq_true rfl)) dX8_add_10 ⟨Nat.le_of_ble_eq_true rfl, Nat.le_of_ble_eq_true rfl⟩) hA hP hD hS [0] [] rfl rfl (by decide) (by decide) (fun _ u_r_5 H locs wr_5 hP hD hS => ?_)
    have hP : va_P D vwCl [(m0, .inr (8, [.ref mH, .int aM, .long u_r_5.1, .int mM, .long mQ, .int u_r_5.2, .int pL, .int lI, .int sW, .int dP, .int sT, .long aT, .int cH, .int iW, .ref mI, .ref mJ, .ref mS, .ref mD, .int iH, .int aE, .int mN, .long sZ, .ref mX, .int tS, .int tA, .int tW, .ref mA, .ref mB, .ref mW, .ref mL, .int lS]))] H := hP
    have hD : va_D A [(m0, .inr (8, [.ref mH, .int aM, .long u_r_5.1, .int mM, .long mQ, .int u_r_5.2, .int pL, .int lI, .int sW, .int dP, .int sT, .long aT, .int cH, .int iW, .ref mI, .ref mJ, .ref mS, .ref mD, .int iH, .int aE, .int mN, .long sZ, .ref mX, .int tS, .int tA, .int tW, .ref mA, .ref mB, .ref mW, .ref mL, .int lS]))] := hD
    try dsimp only at wr_5
    try simp only [Int32.reduceToInt, Int64.reduceToInt] at wr_5
    refine lv_goto (tgt := 53) hx hb dX8_add_13 (by decide) ?_
    refine kVret (u := (aM, u_r_5.1, u_r_5.2)) hx hb hr hlocks hS dX8_add_53 ?_ (hP.sub [0] rfl) (hD.sub [0] (by decide) rfl)
    try dsimp only
    repeat' (with_reducible apply And.intro)
    all_goals first | with_reducible assumption | ((try simp only [jT_, jP_, jD_, jC_, jB_, jW_, Int32.reduceToInt, Int64.reduceToInt, true_or, or_true, true_and, and_true]) <;> omega)
set_option maxRecDepth 100000 in
theorem iX8_times_X8 : ∀ w ∈ wsX80, w ∈ wsX8_times := fun w h => (goodIn_r (big := wsX8_times) wsX80 [10, 11, 12, 13, 14, 15, 16, 17, 18, 19, 20, 21, 22, 23, 24, 25, 26, 27, 28, 29, 30, 31, 32, 33, 34, 35, 36, 37, 38, 39, 40] rfl (by decide +kernel) w h).1
set_option maxRecDepth 100000 in
set_option maxHeartbeats 4000000 in
theorem q_times (l : Launch) (D : va_G) (cI cL cB cZ cT : ClassId) (sz : Nat) (m0 mH mI mJ mS mD mX mA mB mW mL : Nat) (aM : Int32) (aC : Int64) (mM : Int32) (mQ : Int64) (oV pL lI sW dP sT : Int32) (aT : Int64) (cH iW iH aE mN : Int32) (sZ : Int64) (tS tA tW lS : Int32) : kM (S := (Int32 × Int64 × Int32 × Int64)) l yX8_times wsX8_times ({ frames := 0, cells := 0, slots := 0, locals := 0 }) D (kT cI cL cB cZ cT) [.ref m0] [(m0, .inr (8, [.ref mH, .int aM, .long aC, .int mM, .long mQ, .int oV, .int pL, .int lI, .int sW, .int dP, .int sT, .long aT, .int cH, .int iW, .ref mI, .ref mJ, .ref mS, .ref mD, .int iH, .int aE, .int mN, .long sZ, .ref mX, .int tS, .int tA, .int tW, .ref mA, .ref mB, .ref mW, .ref mL, .int lS]))] sz eV (fun r u => jB_ (u.1) ∧ jB_ (u.2.2.1)) (fun u => [(m0, .inr (8, [.ref mH, .int u.1, .long u.2.1, .int u.2.2.1, .long u.2.2.2, .int oV, .int pL, .int lI, .int sW, .int dP, .int sT, .long aT, .int cH, .int iW, .ref mI, .ref mJ, .ref mS, .ref mD, .int iH, .int aE, .int mN, .long sZ, .ref mX, .int tS, .int tA, .int tW, .ref mA, .ref mB, .ref mW, .ref mL, .int lS]))]) 0 0 := by
  refine kStart (cc := cX8_times) (maxL := 12) (ret := none) (own := RX8) (by decide) rfl rfl (Nat.le_of_ble_eq_true rfl) ?_
  intro p e s m args below meth c A ls hx hb hr hml hown hts hlocks hnm hsz hA hG hP hD hS hl
  have hK := hG.1
  have hl : lv_has ls 12 [(0, .ref m0)] := hl
  refine lv_aload_n hx hb dX8_times_0 rfl (lv_at hl 0 rfl) ?_
  refine va_get (D := D) (ci := 8) (v := .long mQ) (C := RX8) (T := TX8) (N := 31) hx hb hts iX8_times_X8 hown hK hP 0 rfl rfl 4 (by decide) (hts (.fieldLink RX8 72 "TapeCalculatorModel" "mq" "J") (List.mem_of_getElem? (i := 1) rfl)) (fun _ h9 => h9) rfl dX8_times_1 ?_
  refine lv_bipush (v := 18) hx hb dX8_times_4 (by decide) ?_
  refine lv_lshr hx hb dX8_times_6 rfl ?_
  refine lv_topl (fun x_1 ex_1 => ?_)
  refine lv_lstore_n (lv' := [(1, .long x_1), (0, .ref m0)]) hx hb dX8_times_7 rfl hl (by decide) rfl (fun ls hl => ?_)
  refine lv_aload_n hx hb dX8_times_8 rfl (lv_at hl 1 rfl) ?_
  refine va_get (D := D) (ci := 8) (v := .long mQ) (C := RX8) (T := TX8) (N := 31) hx hb hts iX8_times_X8 hown hK hP 0 rfl rfl 4 (by decide) (hts (.fieldLink RX8 72 "TapeCalculatorModel" "mq" "J") (List.mem_of_getElem? (i := 1) rfl)) (fun _ h9 => h9) rfl dX8_times_9 ?_
  refine lv_ldc2 (v := 262143) hx hb hown (hts (.constantLong RX8 53 (262143)) (List.mem_of_getElem? (i := 2) rfl)) dX8_times_12 ?_
  refine lv_land hx hb dX8_times_15 ?_
  refine lv_topl (fun x_2 ex_2 => ?_)
  refine lv_lstore_n (lv' := [(3, .long x_2), (1, .long x_1), (0, .ref m0)]) hx hb dX8_times_16 rfl hl (by decide) rfl (fun ls hl => ?_)
  refine lv_lload_n hx hb dX8_times_17 rfl (lv_at hl 0 rfl) ?_
  refine lv_aload_n hx hb dX8_times_18 rfl (lv_at hl 2 rfl) ?_
  refine va_get (D := D) (ci := 8) (v := .long sZ) (C := RX8) (T := TX8) (N := 31) hx hb hts iX8_times_X8 hown hK hP 0 rfl rfl 21 (by decide) (hts (.fieldLink RX8 145 "TapeCalculatorModel" "size" "J") (List.mem_of_getElem? (i := 3) rfl)) (fun _ h9 => h9) rfl dX8_times_19 ?_
  refine lv_lmul hx hb dX8_times_22 ?_
  refine lv_topl (fun x_3 ex_3 => ?_)
  refine lv_lstore (lv' := [(5, .long x_3), (3, .long x_2), (1, .long x_1), (0, .ref m0)]) hx hb dX8_times_23 hl (by decide) rfl (fun ls hl => ?_)
  refine lv_lload_n hx hb dX8_times_25 rfl (lv_at hl 2 rfl) ?_
  refine lv_aload_n hx hb dX8_times_26 rfl (lv_at hl 3 rfl) ?_
  refine va_get (D := D) (ci := 8) (v := .long sZ) (C := RX8) (T := TX8) (N := 31) hx hb hts iX8_times_X8 hown hK hP 0 rfl rfl 21 (by decide) (hts (.fieldLink RX8 145 "TapeCalculatorModel" "size" "J") (List.mem_of_getElem? (i := 3) rfl)) (fun _ h9 => h9) rfl dX8_times_27 ?_
  refine lv_lmul hx hb dX8_times_30 ?_
  refine lv_topl (fun x_4 ex_4 => ?_)
  refine lv_lstore (lv' := [(7, .long x_4), (5, .long x_3), (3, .long x_2), (1, .long x_1), (0, .ref m0)]) hx hb dX8_times_31 hl (by decide) rfl (fun ls hl => ?_)
  refine lv_lload hx hb dX8_times_33 (lv_at hl 0 rfl) ?_
  refine lv_ldc2 (v := 131071) hx hb hown (hts (.constantLong RX8 156 (131071)) (List.mem_of_getElem? (i := 4) rfl)) dX8_times_35 ?_
  refine lv_land hx hb dX8_times_38 ?_
  refine lv_bipush (v := 18) hx hb dX8_times_39 (by decide) ?_
  refine lv_lshl hx hb dX8_times_41 rfl ?_
  refine lv_lload hx hb dX8_times_42 (lv_at hl 1 rfl) ?_
  refine lv_ladd hx hb dX8_times_44 ?_
  refine lv_topl (fun x_5 ex_5 => ?_)
  refine lv_lstore (lv' := [(9, .long x_5), (7, .long x_4), (5, .long x_3), (3, .long x_2), (1, .long x_1), (0, .ref m0)]) hx hb dX8_times_45 hl (by decide) rfl (fun ls hl => ?_)
  refine lv_aload_n hx hb dX8_times_47 rfl (lv_at hl 5 rfl) ?_
  refine lv_lload hx hb dX8_times_48 (lv_at hl 1 rfl) ?_
  refine lv_bipush (v := 17) hx hb dX8_times_50 (by decide) ?_
  refine lv_lshr hx hb dX8_times_52 rfl ?_
  refine lv_lload hx hb dX8_times_53 (lv_at hl 0 rfl) ?_
  refine lv_bipush (v := 35) hx hb dX8_times_55 (by decide) ?_
  refine lv_lshr hx hb dX8_times_57 rfl ?_
  refine lv_ladd hx hb dX8_times_58 ?_
  refine lv_topl (fun x_6 ex_6 => ?_)
  refine va_put (D := D) (ci := 8) (v := .long x_6) (ty := .long) (C := RX8) (T := TX8) (N := 31) hx hb hts iX8_times_X8 tyX8 tyX8_ok nmX8 hown hK hP hD hS 0 rfl rfl 2 (by decide) (hts (.fieldLink RX8 65 "TapeCalculatorModel" "acc" "J") (List.mem_of_getElem? (i := 5) rfl)) (fun _ h9 => h9) rfl (by decide +kernel) rfl rfl (Nat.le_of_ble_eq_true rfl) dX8_times_59 (fun H locs hP hD hS => ?_)
  have hP : va_P D vwCl [(m0, .inr (8, [.ref mH, .int aM, .long x_6, .int mM, .long mQ, .int oV, .int pL, .int lI, .int sW, .int dP, .int sT, .long aT, .int cH, .int iW, .ref mI, .ref mJ, .ref mS, .ref mD, .int iH, .int aE, .int mN, .long sZ, .ref mX, .int tS, .int tA, .int tW, .ref mA, .ref mB, .ref mW, .ref mL, .int lS]))] H := hP
  have hD : va_D A [(m0, .inr (8, [.ref mH, .int aM, .long x_6, .int mM, .long mQ, .int oV, .int pL, .int lI, .int sW, .int dP, .int sT, .long aT, .int cH, .int iW, .ref mI, .ref mJ, .ref mS, .ref mD, .int iH, .int aE, .int mN, .long sZ, .ref mX, .int tS, .int tA, .int tW, .ref mA, .ref mB, .ref mW, .ref mL, .int lS]))] := hD
  refine lv_aload_n hx hb dX8_times_62 rfl (lv_at hl 5 rfl) ?_
  refine lv_lload hx hb dX8_times_63 (lv_at hl 0 rfl) ?_
  refine lv_ldc2 (v := 34359738367) hx hb hown (hts (.constantLong RX8 92 (34359738367)) (List.mem_of_getElem? (i := 6) rfl)) dX8_times_65 ?_
  refine lv_land hx hb dX8_times_68 ?_
  refine lv_topl (fun x_7 ex_7 => ?_)
  refine va_put (D := D) (ci := 8) (v := .long x_7) (ty := .long) (C := RX8) (T := TX8) (N := 31) hx hb hts iX8_times_X8 tyX8 tyX8_ok nmX8 hown hK hP hD hS 0 rfl rfl 4 (by decide) (hts (.fieldLink RX8 72 "TapeCalculatorModel" "mq" "J") (List.mem_of_getElem? (i := 1) rfl)) (fun _ h9 => h9) rfl (by decide +kernel) rfl rfl (Nat.le_of_ble_eq_true rfl) dX8_times_69 (fun H locs hP hD hS => ?_)
  have hP : va_P D vwCl [(m0, .inr (8, [.ref mH, .int aM, .long x_6, .int mM, .long x_7, .int oV, .int pL, .int lI, .int sW, .int dP, .int sT, .long aT, .int cH, .int iW, .ref mI, .ref mJ, .ref mS, .ref mD, .int iH, .int aE, .int mN, .long sZ, .ref mX, .int tS, .int tA, .int tW, .ref mA, .ref mB, .ref mW, .ref mL, .int lS]))] H := hP
  have hD : va_D A [(m0, .inr (8, [.ref mH, .int aM, .long x_6, .int mM, .long x_7, .int oV, .int pL, .int lI, .int sW, .int dP, .int sT, .long aT, .int cH, .int iW, .ref mI, .ref mJ, .ref mS, .ref mD, .int iH, .int aE, .int mN, .long sZ, .ref mX, .int tS, .int tA, .int tW, .ref mA, .ref mB, .ref mW, .ref mL, .int lS]))] := hD
  refine lv_aload_n hx hb dX8_times_72 rfl (lv_at hl 5 rfl) ?_
  refine va_get (D := D) (ci := 8) (v := .int mM) (C := RX8) (T := TX8) (N := 31) hx hb hts iX8_times_X8 hown hK hP 0 rfl rfl 3 (by decide) (hts (.fieldLink RX8 69 "TapeCalculatorModel" "mqMinus" "Z") (List.mem_of_getElem? (i := 7) rfl)) (fun _ h9 => h9) rfl dX8_times_73 ?_
  refine lv_aload_n hx hb dX8_times_76 rfl (lv_at hl 5 rfl) ?_
  refine va_get (D := D) (ci := 8) (v := .int mN) (C := RX8) (T := TX8) (N := 31) hx hb hts iX8_times_X8 hown hK hP 0 rfl rfl 20 (by decide) (hts (.fieldLink RX8 142 "TapeCalculatorModel" "minus" "Z") (List.mem_of_getElem? (i := 8) rfl)) (fun _ h9 => h9) rfl dX8_times_77 ?_
  refine lv_icmp_eq (tgt := 87) hx hb dX8_times_80 (by decide) (fun c_80_7 => ?_) (fun c_80_7 => ?_)
  · have t_80_7 := c_80_7
    try simp only [kb_eq0, kb_ne0, lg_cmp_lt, lg_cmp_le, lg_cmp_gt, lg_cmp_ge, lg_cmp_eq] at t_80_7
    try simp only [Int32.lt_iff_toInt_lt, Int32.le_iff_toInt_le, ← Int32.toInt_inj, Int64.lt_iff_toInt_lt, Int64.le_iff_toInt_le, ← Int64.toInt_inj, Int32.toInt_toInt64, Int32.reduceToInt, Int64.reduceToInt] at t_80_7
    refine lv_iconst (v := 0) hx hb dX8_times_87 (by decide) ?_
    refine lv_istore (lv' := [(11, .int 0), (9, .long x_5), (7, .long x_4), (5, .long x_3), (3, .long x_2), (1, .long x_1), (0, .ref m0)]) hx hb dX8_times_88 hl (by decide) rfl (fun ls hl => ?_)
    refine lv_aload_n hx hb dX8_times_90 rfl (lv_at hl 6 rfl) ?_
    refine lv_iload hx hb dX8_times_91 (lv_at hl 0 rfl) ?_
    refine va_put (D := D) (ci := 8) (v := .int 0) (ty := .boolean) (C := RX8) (T := TX8) (N := 31) hx hb hts iX8_times_X8 tyX8 tyX8_ok nmX8 hown hK hP hD hS 0 rfl rfl 1 (by decide) (hts (.fieldLink RX8 61 "TapeCalculatorModel" "accMinus" "Z") (List.mem_of_getElem? (i := 9) rfl)) (fun _ h9 => h9) rfl (by decide +kernel) rfl rfl (Nat.le_of_ble_eq_true rfl) dX8_times_93 (fun H locs hP hD hS => ?_)
    have hP : va_P D vwCl [(m0, .inr (8, [.ref mH, .int 0, .long x_6, .int mM, .long x_7, .int oV, .int pL, .int lI, .int sW, .int dP, .int sT, .long aT, .int cH, .int iW, .ref mI, .ref mJ, .ref mS, .ref mD, .int iH, .int aE, .int mN, .long sZ, .ref mX, .int tS, .int tA, .int tW, .ref mA, .ref mB, .ref mW, .ref mL, .int lS]))] H := hP
    have hD : va_D A [(m0, .inr (8, [.ref mH, .int 0, .long x_6, .int mM, .long x_7, .int oV, .int pL, .int lI, .int sW, .int dP, .int sT, .long aT, .int cH, .int iW, .ref mI, .ref mJ, .ref mS, .ref mD, .int iH, .int aE, .int mN, .long sZ, .ref mX, .int tS, .int tA, .int tW, .ref mA, .ref mB, .ref mW, .ref mL, .int lS]))] := hD
    refine lv_aload_n hx hb dX8_times_96 rfl (lv_at hl 6 rfl) ?_
    refine lv_iload hx hb dX8_times_97 (lv_at hl 0 rfl) ?_
    refine va_put (D := D) (ci := 8) (v := .int 0) (ty := .boolean) (C := RX8) (T := TX8) (N := 31) hx hb hts iX8_times_X8 tyX8 tyX8_ok nmX8 hown hK hP hD hS 0 rfl rfl 3 (by decide) (hts (.fieldLink RX8 69 "TapeCalculatorModel" "mqMinus" "Z") (List.mem_of_getElem? (i := 7) rfl)) (fun _ h9 => h9) rfl (by decide +kernel) rfl rfl (Nat.le_of_ble_eq_true rfl) dX8_times_99 (fun H locs hP hD hS => ?_)
    have hP : va_P D vwCl [(m0, .inr (8, [.ref mH, .int 0, .long x_6, .int 0, .long x_7, .int oV, .int pL, .int lI, .int sW, .int dP, .int sT, .long aT, .int cH, .int iW, .ref mI, .ref mJ, .ref mS, .ref mD, .int iH, .int aE, .int mN, .long sZ, .ref mX, .int tS, .int tA, .int tW, .ref mA, .ref mB, .ref mW, .ref mL, .int lS]))] H := hP
    have hD : va_D A [(m0, .inr (8, [.ref mH, .int 0, .long x_6, .int 0, .long x_7, .int oV, .int pL, .int lI, .int sW, .int dP, .int sT, .long aT, .int cH, .int iW, .ref mI, .ref mJ, .ref mS, .ref mD, .int iH, .int aE, .int mN, .long sZ, .ref mX, .int tS, .int tA, .int tW, .ref mA, .ref mB, .ref mW, .ref mL, .int lS]))] := hD
    refine kVret (u := (0, x_6, 0, x_7)) hx hb hr hlocks hS dX8_times_102 ?_ (hP.sub [0] rfl) (hD.sub [0] (by decide) rfl)
    try dsimp only
    repeat' (with_reducible apply And.intro)
    all_goals first | with_reducible assumption | ((try simp only [jT_, jP_, jD_, jC_, jB_, jW_, Int32.reduceToInt, Int64.reduceToInt, true_or, or_true, true_and, and_true]) <;> omega)
  · have t_80_7 := c_80_7
    try simp only [kb_eq0, kb_ne0, lg_cmp_lt, lg_cmp_le, lg_cmp_gt, lg_cmp_ge, lg_cmp_eq] at t_80_7
    try simp only [Int32.lt_iff_toInt_lt, Int32.le_iff_toInt_le, ← Int32.toInt_inj, Int64.lt_iff_toInt_lt, Int64.le_iff_toInt_le, ← Int64.toInt_inj, Int32.toInt_toInt64, Int32.reduceToInt, Int64.reduceToInt] at t_80_7
    refine lv_iconst (v := 1) hx hb dX8_times_83 (by decide) ?_
    refine lv_goto (tgt := 88) hx hb dX8_times_84 (by decide) ?_
    refine lv_istore (lv' := [(11, .int 1), (9, .long x_5), (7, .long x_4), (5, .long x_3), (3, .long x_2), (1, .long x_1), (0, .ref m0)]) hx hb dX8_times_88 hl (by decide) rfl (fun ls hl => ?_)
    refine lv_aload_n hx hb dX8_times_90 rfl (lv_at hl 6 rfl) ?_
    refine lv_iload hx hb dX8_times_91 (lv_at hl 0 rfl) ?_
    refine va_put (D := D) (ci := 8) (v := .int 1) (ty := .boolean) (C := RX8) (T := TX8) (N := 31) hx hb hts iX8_times_X8 tyX8 tyX8_ok nmX8 hown hK hP hD hS 0 rfl rfl 1 (by decide) (hts (.fieldLink RX8 61 "TapeCalculatorModel" "accMinus" "Z") (List.mem_of_getElem? (i := 9) rfl)) (fun _ h9 => h9) rfl (by decide +kernel) rfl rfl (Nat.le_of_ble_eq_true rfl) dX8_times_93 (fun H locs hP hD hS => ?_)
    have hP : va_P D vwCl [(m0, .inr (8, [.ref mH, .int 1, .long x_6, .int mM, .long x_7, .int oV, .int pL, .int lI, .int sW, .int dP, .int sT, .long aT, .int cH, .int iW, .ref mI, .ref mJ, .ref mS, .ref mD, .int iH, .int aE, .int mN, .long sZ, .ref mX, .int tS, .int tA, .int tW, .ref mA, .ref mB, .ref mW, .ref mL, .int lS]))] H := hP
    have hD : va_D A [(m0, .inr (8, [.ref mH, .int 1, .long x_6, .int mM, .long x_7, .int oV, .int pL, .int lI, .int sW, .int dP, .int sT, .long aT, .int cH, .int iW, .ref mI, .ref mJ, .ref mS, .ref mD, .int iH, .int aE, .int mN, .long sZ, .ref mX, .int tS, .int tA, .int tW, .ref mA, .ref mB, .ref mW, .ref mL, .int lS]))] := hD
    refine lv_aload_n hx hb dX8_times_96 rfl (lv_at hl 6 rfl) ?_
    refine lv_iload hx hb dX8_times_97 (lv_at hl 0 rfl) ?_
    refine va_put (D := D) (ci := 8) (v := .int 1) (ty := .boolean) (C := RX8) (T := TX8) (N := 31) hx hb hts iX8_times_X8 tyX8 tyX8_ok nmX8 hown hK hP hD hS 0 rfl rfl 3 (by decide) (hts (.fieldLink RX8 69 "TapeCalculatorModel" "mqMinus" "Z") (List.mem_of_getElem? (i := 7) rfl)) (fun _ h9 => h9) rfl (by decide +kernel) rfl rfl (Nat.le_of_ble_eq_true rfl) dX8_times_99 (fun H locs hP hD hS => ?_)
    have hP : va_P D vwCl [(m0, .inr (8, [.ref mH, .int 1, .long x_6, .int 1, .long x_7, .int oV, .int pL, .int lI, .int sW, .int dP, .int sT, .long aT, .int cH, .int iW, .ref mI, .ref mJ, .ref mS, .ref mD, .int iH, .int aE, .int mN, .long sZ, .ref mX, .int tS, .int tA, .int tW, .ref mA, .ref mB, .ref mW, .ref mL, .int lS]))] H := hP
    have hD : va_D A [(m0, .inr (8, [.ref mH, .int 1, .long x_6, .int 1, .long x_7, .int oV, .int pL, .int lI, .int sW, .int dP, .int sT, .long aT, .int cH, .int iW, .ref mI, .ref mJ, .ref mS, .ref mD, .int iH, .int aE, .int mN, .long sZ, .ref mX, .int tS, .int tA, .int tW, .ref mA, .ref mB, .ref mW, .ref mL, .int lS]))] := hD
    refine kVret (u := (1, x_6, 1, x_7)) hx hb hr hlocks hS dX8_times_102 ?_ (hP.sub [0] rfl) (hD.sub [0] (by decide) rfl)
    try dsimp only
    repeat' (with_reducible apply And.intro)
    all_goals first | with_reducible assumption | ((try simp only [jT_, jP_, jD_, jC_, jB_, jW_, Int32.reduceToInt, Int64.reduceToInt, true_or, or_true, true_and, and_true]) <;> omega)
set_option maxRecDepth 100000 in
theorem iX8_round_X8 : ∀ w ∈ wsX80, w ∈ wsX8_round := fun w h => (goodIn_r (big := wsX8_round) wsX80 [12, 13, 14, 15, 16, 17, 18, 19, 20, 21, 22, 23, 24, 25, 26, 27, 28, 29, 30, 31, 32, 33, 34, 35, 36, 37, 38, 39, 40, 41, 42] rfl (by decide +kernel) w h).1
set_option maxRecDepth 100000 in
set_option maxHeartbeats 4000000 in
theorem q_round (l : Launch) (D : va_G) (cI cL cB cZ cT : ClassId) (sz : Nat) (m0 mH mI mJ mS mD mX mA mB mW mL : Nat) (aM : Int32) (aC : Int64) (mM : Int32) (mQ : Int64) (oV pL lI sW dP sT : Int32) (aT : Int64) (cH iW iH aE mN : Int32) (sZ : Int64) (tS tA tW lS : Int32) (hoV : jB_ oV) : kM (S := (Int64 × Int32)) l yX8_round wsX8_round ({ frames := 1, cells := 0, slots := 0, locals := 22 }) D (kT cI cL cB cZ cT) [.ref m0] [(m0, .inr (8, [.ref mH, .int aM, .long aC, .int mM, .long mQ, .int oV, .int pL, .int lI, .int sW, .int dP, .int sT, .long aT, .int cH, .int iW, .ref mI, .ref mJ, .ref mS, .ref mD, .int iH, .int aE, .int mN, .long sZ, .ref mX, .int tS, .int tA, .int tW, .ref mA, .ref mB, .ref mW, .ref mL, .int lS]))] sz eV (fun r u => jB_ (u.2)) (fun u => [(m0, .inr (8, [.ref mH, .int aM, .long u.1, .int mM, .long mQ, .int u.2, .int pL, .int lI, .int sW, .int dP, .int sT, .long aT, .int cH, .int iW, .ref mI, .ref mJ, .ref mS, .ref mD, .int iH, .int aE, .int mN, .long sZ, .ref mX, .int tS, .int tA, .int tW, .ref mA, .ref mB, .ref mW, .ref mL, .int lS]))]) 0 0 := by
  refine kStart (cc := cX8_round) (maxL := 1) (ret := none) (own := RX8) (by decide) rfl rfl (Nat.le_of_ble_eq_true rfl) ?_
  intro p e s m args below meth c A ls hx hb hr hml hown hts hlocks hnm hsz hA hG hP hD hS hl
  have hK := hG.1
  have hl : lv_has ls 1 [(0, .ref m0)] := hl
  refine lv_aload_n hx hb dX8_round_0 rfl (lv_at hl 0 rfl) ?_
  refine va_get (D := D) (ci := 8) (v := .long mQ) (C := RX8) (T := TX8) (N := 31) hx hb hts iX8_round_X8 hown hK hP 0 rfl rfl 4 (by decide) (hts (.fieldLink RX8 72 "TapeCalculatorModel" "mq" "J") (List.mem_of_getElem? (i := 1) rfl)) (fun _ h9 => h9) rfl dX8_round_1 ?_
  refine lv_bipush (v := 34) hx hb dX8_round_4 (by decide) ?_
  refine lv_lshr hx hb dX8_round_6 rfl ?_
  refine lv_lconst (v := 1) hx hb dX8_round_7 (by decide) ?_
  refine lv_land hx hb dX8_round_8 ?_
  refine lv_lconst (v := 1) hx hb dX8_round_9 (by decide) ?_
  refine W.lcmp hx hb dX8_round_10 ?_
  refine lv_if_ne (tgt := 19) hx hb dX8_round_11 (by decide) (fun c_11_0 => ?_) (fun c_11_0 => ?_)
  · have t_11_0 := c_11_0
    try simp only [kb_eq0, kb_ne0, lg_cmp_lt, lg_cmp_le, lg_cmp_gt, lg_cmp_ge, lg_cmp_eq] at t_11_0
    try simp only [Int32.lt_iff_toInt_lt, Int32.le_iff_toInt_le, ← Int32.toInt_inj, Int64.lt_iff_toInt_lt, Int64.le_iff_toInt_le, ← Int64.toInt_inj, Int32.toInt_toInt64, Int32.reduceToInt, Int64.reduceToInt] at t_11_0
    refine kVret (u := (aC, oV)) hx hb hr hlocks hS dX8_round_19 ?_ (hP.sub [0] rfl) (hD.sub [0] (by decide) rfl)
    try dsimp only
    repeat' (with_reducible apply And.intro)
    all_goals first | with_reducible assumption | ((try simp only [jT_, jP_, jD_, jC_, jB_, jW_, Int32.reduceToInt, Int64.reduceToInt, true_or, or_true, true_and, and_true]) <;> omega)
  · have t_11_0 := c_11_0
    try simp only [kb_eq0, kb_ne0, lg_cmp_lt, lg_cmp_le, lg_cmp_gt, lg_cmp_ge, lg_cmp_eq] at t_11_0
    try simp only [Int32.lt_iff_toInt_lt, Int32.le_iff_toInt_le, ← Int32.toInt_inj, Int64.lt_iff_toInt_lt, Int64.le_iff_toInt_le, ← Int64.toInt_inj, Int32.toInt_toInt64, Int32.reduceToInt, Int64.reduceToInt] at t_11_0
    refine lv_aload_n hx hb dX8_round_14 rfl (lv_at hl 0 rfl) ?_
    refine lv_lconst (v := 1) hx hb dX8_round_15 (by decide) ?_
    refine kCallVd (wr := []) (va_runV (As := [.long 1]) (rest := []) ⟨hx, hb, hml, hown, hts⟩ (q_more l D cI cL cB cZ cT _ m0 mH mI mJ mS mD mX mA mB mW mL aM aC mM mQ oV pL lI sW dP sT aT cH iW iH aE mN sZ tS tA tW lS 1) (cwV 1 hts gX8_round_X8_more rfl rfl rfl (by decide +kernel) ⟨Nat.le_of_ble_eq_true rfl, Nat.le_of_ble_eq_true rfl⟩) (kPreV hG hP hD [0] rfl (by decide) 0 8 rfl rfl rfl) rfl rfl hl.1 rfl (lv_room (Nat.le_of_ble_eq_true rfl)) dX8_round_16 ⟨Nat.le_of_ble_eq_true rfl, Nat.le_of_ble_eq_true rfl⟩) hA hP hD hS [0] [] rfl rfl (by decide) (by decide) (fun _ u_r_2 H locs wr_2 hP hD hS => ?_)
    have hP : va_P D vwCl [(m0, .inr (8, [.ref mH, .int aM, .long u_r_2.1, .int mM, .long mQ, .int u_r_2.2, .int pL, .int lI, .int sW, .int dP, .int sT, .long aT, .int cH, .int iW, .ref mI, .ref mJ, .ref mS, .ref mD, .int iH, .int aE, .int mN, .long sZ, .ref mX, .int tS, .int tA, .int tW, .ref mA, .ref mB, .ref mW, .ref mL, .int lS]))] H := hP
    have hD : va_D A [(m0, .inr (8, [.ref mH, .int aM, .long u_r_2.1, .int mM, .long mQ, .int u_r_2.2, .int pL, .int lI, .int sW, .int dP, .int sT, .long aT, .int cH, .int iW, .ref mI, .ref mJ, .ref mS, .ref mD, .int iH, .int aE, .int mN, .long sZ, .ref mX, .int tS, .int tA, .int tW, .ref mA, .ref mB, .ref mW, .ref mL, .int lS]))] := hD
    try dsimp only at wr_2
    try simp only [Int32.reduceToInt, Int64.reduceToInt] at wr_2
    refine kVret (u := (u_r_2.1, u_r_2.2)) hx hb hr hlocks hS dX8_round_19 ?_ (hP.sub [0] rfl) (hD.sub [0] (by decide) rfl)
    try dsimp only
    repeat' (with_reducible apply And.intro)
    all_goals first | with_reducible assumption | ((try simp only [jT_, jP_, jD_, jC_, jB_, jW_, Int32.reduceToInt, Int64.reduceToInt, true_or, or_true, true_and, and_true]) <;> omega)
set_option maxRecDepth 100000 in
theorem iX8_shares_X8 : ∀ w ∈ wsX80, w ∈ wsX8_shares := fun w h => (goodIn_r (big := wsX8_shares) wsX80 [7, 8, 9, 10, 11, 12, 13, 14, 15, 16, 17, 18, 19, 20, 21, 22, 23, 24, 25, 26, 27, 28, 29, 30, 31, 32, 33, 34, 35, 36, 37] rfl (by decide +kernel) w h).1
set_option maxRecDepth 100000 in
set_option maxHeartbeats 4000000 in
theorem q_shares (l : Launch) (D : va_G) (cI cL cB cZ cT : ClassId) (sz : Nat) (m0 mH mI mJ mS mD mX mA mB mW mL : Nat) (aM : Int32) (aC : Int64) (mM : Int32) (mQ : Int64) (oV pL lI sW dP sT : Int32) (aT : Int64) (cH iW iH aE mN : Int32) (sZ : Int64) (tS tA tW lS : Int32) (hmM : jB_ mM) : kM (S := (Int64 × Int32 × Int64)) l yX8_shares wsX8_shares ({ frames := 0, cells := 0, slots := 0, locals := 0 }) D (kT cI cL cB cZ cT) [.ref m0] [(m0, .inr (8, [.ref mH, .int aM, .long aC, .int mM, .long mQ, .int oV, .int pL, .int lI, .int sW, .int dP, .int sT, .long aT, .int cH, .int iW, .ref mI, .ref mJ, .ref mS, .ref mD, .int iH, .int aE, .int mN, .long sZ, .ref mX, .int tS, .int tA, .int tW, .ref mA, .ref mB, .ref mW, .ref mL, .int lS]))] sz eI (fun r u => (r.toInt = 0 ∨ r.toInt = 1) ∧ jB_ (u.2.1)) (fun u => [(m0, .inr (8, [.ref mH, .int aM, .long u.1, .int u.2.1, .long u.2.2, .int oV, .int pL, .int lI, .int sW, .int dP, .int sT, .long aT, .int cH, .int iW, .ref mI, .ref mJ, .ref mS, .ref mD, .int iH, .int aE, .int mN, .long sZ, .ref mX, .int tS, .int tA, .int tW, .ref mA, .ref mB, .ref mW, .ref mL, .int lS]))]) 0 0 := by
  refine kStart (cc := cX8_shares) (maxL := 6) (ret := (some .boolean)) (own := RX8) (by decide) rfl rfl (Nat.le_of_ble_eq_true rfl) ?_
  intro p e s m args below meth c A ls hx hb hr hml hown hts hlocks hnm hsz hA hG hP hD hS hl
  have hK := hG.1
  have hl : lv_has ls 6 [(0, .ref m0)] := hl
  refine lv_aload_n hx hb dX8_shares_0 rfl (lv_at hl 0 rfl) ?_
  refine va_get (D := D) (ci := 8) (v := .long sZ) (C := RX8) (T := TX8) (N := 31) hx hb hts iX8_shares_X8 hown hK hP 0 rfl rfl 21 (by decide) (hts (.fieldLink RX8 145 "TapeCalculatorModel" "size" "J") (List.mem_of_getElem? (i := 1) rfl)) (fun _ h9 => h9) rfl dX8_shares_1 ?_
  refine lv_aload_n hx hb dX8_shares_4 rfl (lv_at hl 0 rfl) ?_
  refine va_get (D := D) (ci := 8) (v := .long aC) (C := RX8) (T := TX8) (N := 31) hx hb hts iX8_shares_X8 hown hK hP 0 rfl rfl 2 (by decide) (hts (.fieldLink RX8 65 "TapeCalculatorModel" "acc" "J") (List.mem_of_getElem? (i := 2) rfl)) (fun _ h9 => h9) rfl dX8_shares_5 ?_
  refine W.lcmp hx hb dX8_shares_8 ?_
  refine lv_if_gt (tgt := 14) hx hb dX8_shares_9 (by decide) (fun c_9_0 => ?_) (fun c_9_0 => ?_)
  · have t_9_0 := c_9_0
    try simp only [kb_eq0, kb_ne0, lg_cmp_lt, lg_cmp_le, lg_cmp_gt, lg_cmp_ge, lg_cmp_eq] at t_9_0
    try simp only [Int32.lt_iff_toInt_lt, Int32.le_iff_toInt_le, ← Int32.toInt_inj, Int64.lt_iff_toInt_lt, Int64.le_iff_toInt_le, ← Int64.toInt_inj, Int32.toInt_toInt64, Int32.reduceToInt, Int64.reduceToInt] at t_9_0
    refine lv_aload_n hx hb dX8_shares_14 rfl (lv_at hl 0 rfl) ?_
    refine va_get (D := D) (ci := 8) (v := .long aC) (C := RX8) (T := TX8) (N := 31) hx hb hts iX8_shares_X8 hown hK hP 0 rfl rfl 2 (by decide) (hts (.fieldLink RX8 65 "TapeCalculatorModel" "acc" "J") (List.mem_of_getElem? (i := 2) rfl)) (fun _ h9 => h9) rfl dX8_shares_15 ?_
    refine lv_lstore_n (lv' := [(1, .long aC), (0, .ref m0)]) hx hb dX8_shares_18 rfl hl (by decide) rfl (fun ls hl => ?_)
    refine lv_lconst (v := 0) hx hb dX8_shares_19 (by decide) ?_
    refine lv_lstore_n (lv' := [(3, .long 0), (1, .long aC), (0, .ref m0)]) hx hb dX8_shares_20 rfl hl (by decide) rfl (fun ls hl => ?_)
    refine lv_bipush (v := 34) hx hb dX8_shares_21 (by decide) ?_
    refine lv_istore (lv' := [(5, .int 34), (3, .long 0), (1, .long aC), (0, .ref m0)]) hx hb dX8_shares_23 hl (by decide) rfl (fun ls hl => ?_)
    have J25 : ∀ (k : Nat) (re : Int64) (qu : Int64) (j : Int32), (j.toInt + 1).toNat < k → -1 ≤ j.toInt ∧ j.toInt ≤ 34 → ∀ (H : Heap) (locs : List Loc), va_P D vwCl [(m0, .inr (8, [.ref mH, .int aM, .long aC, .int mM, .long mQ, .int oV, .int pL, .int lI, .int sW, .int dP, .int sT, .long aT, .int cH, .int iW, .ref mI, .ref mJ, .ref mS, .ref mD, .int iH, .int aE, .int mN, .long sZ, .ref mX, .int tS, .int tA, .int tW, .ref mA, .ref mB, .ref mW, .ref mL, .int lS]))] H → va_D A [(m0, .inr (8, [.ref mH, .int aM, .long aC, .int mM, .long mQ, .int oV, .int pL, .int lI, .int sW, .int dP, .int sT, .long aT, .int cH, .int iW, .ref mI, .ref mJ, .ref mS, .ref mD, .int iH, .int aE, .int mN, .long sZ, .ref mX, .int tS, .int tA, .int tW, .ref mA, .ref mB, .ref mW, .ref mL, .int lS]))] → va_S A s.heap H locs → ∀ ls : Array Slot, lv_has ls 6 [(5, .int j), (3, .long qu), (1, .long re), (0, .ref m0)] → W p l e ({ frames := 0, cells := 0, slots := 0, locals := 0 }) s m args below meth c H locs 0 0 (MQ below (kQ (S := (Int64 × Int32 × Int64)) eI (fun r u => (r.toInt = 0 ∨ r.toInt = 1) ∧ jB_ (u.2.1)) D (fun u => [(m0, .inr (8, [.ref mH, .int aM, .long u.1, .int u.2.1, .long u.2.2, .int oV, .int pL, .int lI, .int sW, .int dP, .int sT, .long aT, .int cH, .int iW, .ref mI, .ref mJ, .ref mS, .ref mD, .int iH, .int aE, .int mN, .long sZ, .ref mX, .int tS, .int tA, .int tW, .ref mA, .ref mB, .ref mW, .ref mL, .int lS]))]) A) args s 0 0 A) (F0 m 25 ls []) := by
      intro k
      induction k with
      | zero =>
        intro re qu j hm
        exact absurd hm (Nat.not_lt_zero _)
      | succ k ih =>
        intro re qu j hm hj H locs hP hD hS ls hl
        refine lv_iload hx hb dX8_shares_25 (lv_at hl 0 rfl) ?_
        refine lv_if_lt (tgt := 74) hx hb dX8_shares_27 (by decide) (fun c_27_1 => ?_) (fun c_27_1 => ?_)
        · have t_27_1 := c_27_1
          try simp only [kb_eq0, kb_ne0, lg_cmp_lt, lg_cmp_le, lg_cmp_gt, lg_cmp_ge, lg_cmp_eq] at t_27_1
          try simp only [Int32.lt_iff_toInt_lt, Int32.le_iff_toInt_le, ← Int32.toInt_inj, Int64.lt_iff_toInt_lt, Int64.le_iff_toInt_le, ← Int64.toInt_inj, Int32.toInt_toInt64, Int32.reduceToInt, Int64.reduceToInt] at t_27_1
          refine lv_aload_n hx hb dX8_shares_74 rfl (lv_at hl 3 rfl) ?_
          refine lv_lload_n hx hb dX8_shares_75 rfl (lv_at hl 2 rfl) ?_
          refine va_put (D := D) (ci := 8) (v := .long re) (ty := .long) (C := RX8) (T := TX8) (N := 31) hx hb hts iX8_shares_X8 tyX8 tyX8_ok nmX8 hown hK hP hD hS 0 rfl rfl 2 (by decide) (hts (.fieldLink RX8 65 "TapeCalculatorModel" "acc" "J") (List.mem_of_getElem? (i := 2) rfl)) (fun _ h9 => h9) rfl (by decide +kernel) rfl rfl (Nat.le_of_ble_eq_true rfl) dX8_shares_76 (fun H locs hP hD hS => ?_)
          have hP : va_P D vwCl [(m0, .inr (8, [.ref mH, .int aM, .long re, .int mM, .long mQ, .int oV, .int pL, .int lI, .int sW, .int dP, .int sT, .long aT, .int cH, .int iW, .ref mI, .ref mJ, .ref mS, .ref mD, .int iH, .int aE, .int mN, .long sZ, .ref mX, .int tS, .int tA, .int tW, .ref mA, .ref mB, .ref mW, .ref mL, .int lS]))] H := hP
          have hD : va_D A [(m0, .inr (8, [.ref mH, .int aM, .long re, .int mM, .long mQ, .int oV, .int pL, .int lI, .int sW, .int dP, .int sT, .long aT, .int cH, .int iW, .ref mI, .ref mJ, .ref mS, .ref mD, .int iH, .int aE, .int mN, .long sZ, .ref mX, .int tS, .int tA, .int tW, .ref mA, .ref mB, .ref mW, .ref mL, .int lS]))] := hD
          refine lv_aload_n hx hb dX8_shares_79 rfl (lv_at hl 3 rfl) ?_
          refine lv_lload_n hx hb dX8_shares_80 rfl (lv_at hl 1 rfl) ?_
          refine va_put (D := D) (ci := 8) (v := .long qu) (ty := .long) (C := RX8) (T := TX8) (N := 31) hx hb hts iX8_shares_X8 tyX8 tyX8_ok nmX8 hown hK hP hD hS 0 rfl rfl 4 (by decide) (hts (.fieldLink RX8 72 "TapeCalculatorModel" "mq" "J") (List.mem_of_getElem? (i := 3) rfl)) (fun _ h9 => h9) rfl (by decide +kernel) rfl rfl (Nat.le_of_ble_eq_true rfl) dX8_shares_81 (fun H locs hP hD hS => ?_)
          have hP : va_P D vwCl [(m0, .inr (8, [.ref mH, .int aM, .long re, .int mM, .long qu, .int oV, .int pL, .int lI, .int sW, .int dP, .int sT, .long aT, .int cH, .int iW, .ref mI, .ref mJ, .ref mS, .ref mD, .int iH, .int aE, .int mN, .long sZ, .ref mX, .int tS, .int tA, .int tW, .ref mA, .ref mB, .ref mW, .ref mL, .int lS]))] H := hP
          have hD : va_D A [(m0, .inr (8, [.ref mH, .int aM, .long re, .int mM, .long qu, .int oV, .int pL, .int lI, .int sW, .int dP, .int sT, .long aT, .int cH, .int iW, .ref mI, .ref mJ, .ref mS, .ref mD, .int iH, .int aE, .int mN, .long sZ, .ref mX, .int tS, .int tA, .int tW, .ref mA, .ref mB, .ref mW, .ref mL, .int lS]))] := hD
          refine lv_aload_n hx hb dX8_shares_84 rfl (lv_at hl 3 rfl) ?_
          refine lv_aload_n hx hb dX8_shares_85 rfl (lv_at hl 3 rfl) ?_
          refine va_get (D := D) (ci := 8) (v := .int aM) (C := RX8) (T := TX8) (N := 31) hx hb hts iX8_shares_X8 hown hK hP 0 rfl rfl 1 (by decide) (hts (.fieldLink RX8 61 "TapeCalculatorModel" "accMinus" "Z") (List.mem_of_getElem? (i := 4) rfl)) (fun _ h9 => h9) rfl dX8_shares_86 ?_
          refine lv_aload_n hx hb dX8_shares_89 rfl (lv_at hl 3 rfl) ?_
          refine va_get (D := D) (ci := 8) (v := .int mN) (C := RX8) (T := TX8) (N := 31) hx hb hts iX8_shares_X8 hown hK hP 0 rfl rfl 20 (by decide) (hts (.fieldLink RX8 142 "TapeCalculatorModel" "minus" "Z") (List.mem_of_getElem? (i := 5) rfl)) (fun _ h9 => h9) rfl dX8_shares_90 ?_
          refine lv_icmp_eq (tgt := 100) hx hb dX8_shares_93 (by decide) (fun c_93_2 => ?_) (fun c_93_2 => ?_)
          · have t_93_2 := c_93_2
            try simp only [kb_eq0, kb_ne0, lg_cmp_lt, lg_cmp_le, lg_cmp_gt, lg_cmp_ge, lg_cmp_eq] at t_93_2
            try simp only [Int32.lt_iff_toInt_lt, Int32.le_iff_toInt_le, ← Int32.toInt_inj, Int64.lt_iff_toInt_lt, Int64.le_iff_toInt_le, ← Int64.toInt_inj, Int32.toInt_toInt64, Int32.reduceToInt, Int64.reduceToInt] at t_93_2
            refine lv_iconst (v := 0) hx hb dX8_shares_100 (by decide) ?_
            refine va_put (D := D) (ci := 8) (v := .int 0) (ty := .boolean) (C := RX8) (T := TX8) (N := 31) hx hb hts iX8_shares_X8 tyX8 tyX8_ok nmX8 hown hK hP hD hS 0 rfl rfl 3 (by decide) (hts (.fieldLink RX8 69 "TapeCalculatorModel" "mqMinus" "Z") (List.mem_of_getElem? (i := 6) rfl)) (fun _ h9 => h9) rfl (by decide +kernel) rfl rfl (Nat.le_of_ble_eq_true rfl) dX8_shares_101 (fun H locs hP hD hS => ?_)
            have hP : va_P D vwCl [(m0, .inr (8, [.ref mH, .int aM, .long re, .int 0, .long qu, .int oV, .int pL, .int lI, .int sW, .int dP, .int sT, .long aT, .int cH, .int iW, .ref mI, .ref mJ, .ref mS, .ref mD, .int iH, .int aE, .int mN, .long sZ, .ref mX, .int tS, .int tA, .int tW, .ref mA, .ref mB, .ref mW, .ref mL, .int lS]))] H := hP
            have hD : va_D A [(m0, .inr (8, [.ref mH, .int aM, .long re, .int 0, .long qu, .int oV, .int pL, .int lI, .int sW, .int dP, .int sT, .long aT, .int cH, .int iW, .ref mI, .ref mJ, .ref mS, .ref mD, .int iH, .int aE, .int mN, .long sZ, .ref mX, .int tS, .int tA, .int tW, .ref mA, .ref mB, .ref mW, .ref mL, .int lS]))] := hD
            refine lv_iconst (v := 1) hx hb dX8_shares_104 (by decide) ?_
            refine kIret (u := (re, 0, qu)) hx hb hr rfl hlocks hS dX8_shares_105 ?_ (hP.sub [0] rfl) (hD.sub [0] (by decide) rfl)
            try dsimp only
            repeat' (with_reducible apply And.intro)
            all_goals first | with_reducible assumption | ((try simp only [jT_, jP_, jD_, jC_, jB_, jW_, Int32.reduceToInt, Int64.reduceToInt, true_or, or_true, true_and, and_true]) <;> omega)
          · have t_93_2 := c_93_2
            try simp only [kb_eq0, kb_ne0, lg_cmp_lt, lg_cmp_le, lg_cmp_gt, lg_cmp_ge, lg_cmp_eq] at t_93_2
            try simp only [Int32.lt_iff_toInt_lt, Int32.le_iff_toInt_le, ← Int32.toInt_inj, Int64.lt_iff_toInt_lt, Int64.le_iff_toInt_le, ← Int64.toInt_inj, Int32.toInt_toInt64, Int32.reduceToInt, Int64.reduceToInt] at t_93_2
            refine lv_iconst (v := 1) hx hb dX8_shares_96 (by decide) ?_
            refine lv_goto (tgt := 101) hx hb dX8_shares_97 (by decide) ?_
            refine va_put (D := D) (ci := 8) (v := .int 1) (ty := .boolean) (C := RX8) (T := TX8) (N := 31) hx hb hts iX8_shares_X8 tyX8 tyX8_ok nmX8 hown hK hP hD hS 0 rfl rfl 3 (by decide) (hts (.fieldLink RX8 69 "TapeCalculatorModel" "mqMinus" "Z") (List.mem_of_getElem? (i := 6) rfl)) (fun _ h9 => h9) rfl (by decide +kernel) rfl rfl (Nat.le_of_ble_eq_true rfl) dX8_shares_101 (fun H locs hP hD hS => ?_)
            have hP : va_P D vwCl [(m0, .inr (8, [.ref mH, .int aM, .long re, .int 1, .long qu, .int oV, .int pL, .int lI, .int sW, .int dP, .int sT, .long aT, .int cH, .int iW, .ref mI, .ref mJ, .ref mS, .ref mD, .int iH, .int aE, .int mN, .long sZ, .ref mX, .int tS, .int tA, .int tW, .ref mA, .ref mB, .ref mW, .ref mL, .int lS]))] H := hP
            have hD : va_D A [(m0, .inr (8, [.ref mH, .int aM, .long re, .int 1, .long qu, .int oV, .int pL, .int lI, .int sW, .int dP, .int sT, .long aT, .int cH, .int iW, .ref mI, .ref mJ, .ref mS, .ref mD, .int iH, .int aE, .int mN, .long sZ, .ref mX, .int tS, .int tA, .int tW, .ref mA, .ref mB, .ref mW, .ref mL, .int lS]))] := hD
            refine lv_iconst (v := 1) hx hb dX8_shares_104 (by decide) ?_
            refine kIret (u := (re, 1, qu)) hx hb hr rfl hlocks hS dX8_shares_105 ?_ (hP.sub [0] rfl) (hD.sub [0] (by decide) rfl)
            try dsimp only
            repeat' (with_reducible apply And.intro)
            all_goals first | with_reducible assumption | ((try simp only [jT_, jP_, jD_, jC_, jB_, jW_, Int32.reduceToInt, Int64.reduceToInt, true_or, or_true, true_and, and_true]) <;> omega)
        · have t_27_1 := c_27_1
          try simp only [kb_eq0, kb_ne0, lg_cmp_lt, lg_cmp_le, lg_cmp_gt, lg_cmp_ge, lg_cmp_eq] at t_27_1
          try simp only [Int32.lt_iff_toInt_lt, Int32.le_iff_toInt_le, ← Int32.toInt_inj, Int64.lt_iff_toInt_lt, Int64.le_iff_toInt_le, ← Int64.toInt_inj, Int32.toInt_toInt64, Int32.reduceToInt, Int64.reduceToInt] at t_27_1
          refine lv_lload_n hx hb dX8_shares_30 rfl (lv_at hl 2 rfl) ?_
          refine lv_iconst (v := 1) hx hb dX8_shares_31 (by decide) ?_
          refine lv_lshl hx hb dX8_shares_32 rfl ?_
          refine lv_aload_n hx hb dX8_shares_33 rfl (lv_at hl 3 rfl) ?_
          refine va_get (D := D) (ci := 8) (v := .long mQ) (C := RX8) (T := TX8) (N := 31) hx hb hts iX8_shares_X8 hown hK hP 0 rfl rfl 4 (by decide) (hts (.fieldLink RX8 72 "TapeCalculatorModel" "mq" "J") (List.mem_of_getElem? (i := 3) rfl)) (fun _ h9 => h9) rfl dX8_shares_34 ?_
          refine lv_iload hx hb dX8_shares_37 (lv_at hl 0 rfl) ?_
          refine lv_lshr hx hb dX8_shares_39 rfl ?_
          refine lv_lconst (v := 1) hx hb dX8_shares_40 (by decide) ?_
          refine lv_land hx hb dX8_shares_41 ?_
          refine lv_lor hx hb dX8_shares_42 ?_
          refine lv_topl (fun x_4 ex_4 => ?_)
          refine lv_lstore_n (lv' := [(1, .long x_4), (5, .int j), (3, .long qu), (0, .ref m0)]) hx hb dX8_shares_43 rfl hl (by decide) rfl (fun ls hl => ?_)
          refine lv_lload_n hx hb dX8_shares_44 rfl (lv_at hl 2 rfl) ?_
          refine lv_iconst (v := 1) hx hb dX8_shares_45 (by decide) ?_
          refine lv_lshl hx hb dX8_shares_46 rfl ?_
          refine lv_topl (fun x_5 ex_5 => ?_)
          refine lv_lstore_n (lv' := [(3, .long x_5), (1, .long x_4), (5, .int j), (0, .ref m0)]) hx hb dX8_shares_47 rfl hl (by decide) rfl (fun ls hl => ?_)
          refine lv_lload_n hx hb dX8_shares_48 rfl (lv_at hl 1 rfl) ?_
          refine lv_aload_n hx hb dX8_shares_49 rfl (lv_at hl 3 rfl) ?_
          refine va_get (D := D) (ci := 8) (v := .long sZ) (C := RX8) (T := TX8) (N := 31) hx hb hts iX8_shares_X8 hown hK hP 0 rfl rfl 21 (by decide) (hts (.fieldLink RX8 145 "TapeCalculatorModel" "size" "J") (List.mem_of_getElem? (i := 1) rfl)) (fun _ h9 => h9) rfl dX8_shares_50 ?_
          refine W.lcmp hx hb dX8_shares_53 ?_
          refine lv_if_lt (tgt := 68) hx hb dX8_shares_54 (by decide) (fun c_54_5 => ?_) (fun c_54_5 => ?_)
          · have t_54_5 := c_54_5
            try simp only [kb_eq0, kb_ne0, lg_cmp_lt, lg_cmp_le, lg_cmp_gt, lg_cmp_ge, lg_cmp_eq] at t_54_5
            try simp only [Int32.lt_iff_toInt_lt, Int32.le_iff_toInt_le, ← Int32.toInt_inj, Int64.lt_iff_toInt_lt, Int64.le_iff_toInt_le, ← Int64.toInt_inj, Int32.toInt_toInt64, Int32.reduceToInt, Int64.reduceToInt] at t_54_5
            obtain ⟨x_7, ex_7⟩ : ∃ y : Int32, y = j + (-1) := ⟨_, rfl⟩
            refine lv_iinc (v := x_7) (lv' := [(5, .int x_7), (3, .long x_5), (1, .long x_4), (0, .ref m0)]) hx hb dX8_shares_68 hl (k := 2) rfl (by rw [ex_7]; rfl) (by decide) rfl (fun ls hl => ?_)
            refine lv_goto (tgt := 25) hx hb dX8_shares_71 (by decide) ?_
            have hd := k_decA (i := j) (n := (-1)) (by simp only [show (-1 : Int32).toInt = -1 from rfl]; omega)
            rw [← ex_7] at hd
            exact ih x_4 x_5 x_7 (by omega) (by omega) _ _ (hP.sub [0] rfl) (hD.sub [0] (by decide) rfl) hS ls (lv_sub hl [0, 1, 2, 3] rfl)
          · have t_54_5 := c_54_5
            try simp only [kb_eq0, kb_ne0, lg_cmp_lt, lg_cmp_le, lg_cmp_gt, lg_cmp_ge, lg_cmp_eq] at t_54_5
            try simp only [Int32.lt_iff_toInt_lt, Int32.le_iff_toInt_le, ← Int32.toInt_inj, Int64.lt_iff_toInt_lt, Int64.le_iff_toInt_le, ← Int64.toInt_inj, Int32.toInt_toInt64, Int32.reduceToInt, Int64.reduceToInt] at t_54_5
            refine lv_lload_n hx hb dX8_shares_57 rfl (lv_at hl 1 rfl) ?_
            refine lv_aload_n hx hb dX8_shares_58 rfl (lv_at hl 3 rfl) ?_
            refine va_get (D := D) (ci := 8) (v := .long sZ) (C := RX8) (T := TX8) (N := 31) hx hb hts iX8_shares_X8 hown hK hP 0 rfl rfl 21 (by decide) (hts (.fieldLink RX8 145 "TapeCalculatorModel" "size" "J") (List.mem_of_getElem? (i := 1) rfl)) (fun _ h9 => h9) rfl dX8_shares_59 ?_
            refine lv_lsub hx hb dX8_shares_62 ?_
            refine lv_topl (fun x_8 ex_8 => ?_)
            refine lv_lstore_n (lv' := [(1, .long x_8), (3, .long x_5), (5, .int j), (0, .ref m0)]) hx hb dX8_shares_63 rfl hl (by decide) rfl (fun ls hl => ?_)
            refine lv_lload_n hx hb dX8_shares_64 rfl (lv_at hl 1 rfl) ?_
            refine lv_lconst (v := 1) hx hb dX8_shares_65 (by decide) ?_
            refine lv_lor hx hb dX8_shares_66 ?_
            refine lv_topl (fun x_9 ex_9 => ?_)
            refine lv_lstore_n (lv' := [(3, .long x_9), (1, .long x_8), (5, .int j), (0, .ref m0)]) hx hb dX8_shares_67 rfl hl (by decide) rfl (fun ls hl => ?_)
            obtain ⟨x_10, ex_10⟩ : ∃ y : Int32, y = j + (-1) := ⟨_, rfl⟩
            refine lv_iinc (v := x_10) (lv' := [(5, .int x_10), (3, .long x_9), (1, .long x_8), (0, .ref m0)]) hx hb dX8_shares_68 hl (k := 2) rfl (by rw [ex_10]; rfl) (by decide) rfl (fun ls hl => ?_)
            refine lv_goto (tgt := 25) hx hb dX8_shares_71 (by decide) ?_
            have hd := k_decA (i := j) (n := (-1)) (by simp only [show (-1 : Int32).toInt = -1 from rfl]; omega)
            rw [← ex_10] at hd
            exact ih x_8 x_9 x_10 (by omega) (by omega) _ _ (hP.sub [0] rfl) (hD.sub [0] (by decide) rfl) hS ls (lv_sub hl [0, 1, 2, 3] rfl)
    have hz34 : (34 : Int32).toInt = 34 := by decide
    exact J25 _ aC 0 34 (Nat.lt_succ_self _) (by omega) _ _ (hP.sub [0] rfl) (hD.sub [0] (by decide) rfl) hS ls (lv_sub hl [0, 1, 2, 3] rfl)
  · have t_9_0 := c_9_0
    try simp only [kb_eq0, kb_ne0, lg_cmp_lt, lg_cmp_le, lg_cmp_gt, lg_cmp_ge, lg_cmp_eq] at t_9_0
    try simp only [Int32.lt_iff_toInt_lt, Int32.le_iff_toInt_le, ← Int32.toInt_inj, Int64.lt_iff_toInt_lt, Int64.le_iff_toInt_le, ← Int64.toInt_inj, Int32.toInt_toInt64, Int32.reduceToInt, Int64.reduceToInt] at t_9_0
    refine lv_iconst (v := 0) hx hb dX8_shares_12 (by decide) ?_
    refine kIret (u := (aC, mM, mQ)) hx hb hr rfl hlocks hS dX8_shares_13 ?_ (hP.sub [0] rfl) (hD.sub [0] (by decide) rfl)
    try dsimp only
    repeat' (with_reducible apply And.intro)
    all_goals first | with_reducible assumption | ((try simp only [jT_, jP_, jD_, jC_, jB_, jW_, Int32.reduceToInt, Int64.reduceToInt, true_or, or_true, true_and, and_true]) <;> omega)
set_option maxRecDepth 100000 in
theorem iX8_left_X8 : ∀ w ∈ wsX80, w ∈ wsX8_left := fun w h => (goodIn_r (big := wsX8_left) wsX80 [9, 10, 11, 12, 13, 14, 15, 16, 17, 18, 19, 20, 21, 22, 23, 24, 25, 26, 27, 28, 29, 30, 31, 32, 33, 34, 35, 36, 37, 38, 39] rfl (by decide +kernel) w h).1
set_option maxRecDepth 100000 in
set_option maxHeartbeats 4000000 in
theorem q_left (l : Launch) (D : va_G) (cI cL cB cZ cT : ClassId) (sz : Nat) (m0 mH mI mJ mS mD mX mA mB mW mL : Nat) (aM : Int32) (aC : Int64) (mM : Int32) (mQ : Int64) (oV pL lI sW dP sT : Int32) (aT : Int64) (cH iW iH aE mN : Int32) (sZ : Int64) (tS tA tW lS : Int32) (n z : Int32) (haM : jB_ aM) (hmM : jB_ mM) (hoV : jB_ oV) : kM (S := (Int32 × Int64 × Int64 × Int32)) l yX8_left wsX8_left ({ frames := 0, cells := 0, slots := 0, locals := 0 }) D (kT cI cL cB cZ cT) [.ref m0, .int n, .int z] [(m0, .inr (8, [.ref mH, .int aM, .long aC, .int mM, .long mQ, .int oV, .int pL, .int lI, .int sW, .int dP, .int sT, .long aT, .int cH, .int iW, .ref mI, .ref mJ, .ref mS, .ref mD, .int iH, .int aE, .int mN, .long sZ, .ref mX, .int tS, .int tA, .int tW, .ref mA, .ref mB, .ref mW, .ref mL, .int lS]))] sz eV (fun r u => jB_ (u.1) ∧ jB_ (u.2.2.2)) (fun u => [(m0, .inr (8, [.ref mH, .int u.1, .long u.2.1, .int mM, .long u.2.2.1, .int u.2.2.2, .int pL, .int lI, .int sW, .int dP, .int sT, .long aT, .int cH, .int iW, .ref mI, .ref mJ, .ref mS, .ref mD, .int iH, .int aE, .int mN, .long sZ, .ref mX, .int tS, .int tA, .int tW, .ref mA, .ref mB, .ref mW, .ref mL, .int lS]))]) 0 0 := by
  refine kStart (cc := cX8_left) (maxL := 6) (ret := none) (own := RX8) (by decide) rfl rfl (Nat.le_of_ble_eq_true rfl) ?_
  intro p e s m args below meth c A ls hx hb hr hml hown hts hlocks hnm hsz hA hG hP hD hS hl
  have hK := hG.1
  have hl : lv_has ls 6 [(0, .ref m0), (1, .int n), (2, .int z)] := hl
  refine lv_iconst (v := 0) hx hb dX8_left_0 (by decide) ?_
  refine lv_istore_n (lv' := [(3, .int 0), (0, .ref m0), (1, .int n), (2, .int z)]) hx hb dX8_left_1 rfl hl (by decide) rfl (fun ls hl => ?_)
  have J2 : ∀ (k : Nat) (j : Int32) (va : Int64) (vq : Int64) (vo : Int32), (n.toInt - j.toInt).toNat < k → jB_ vo → ∀ (H : Heap) (locs : List Loc), va_P D vwCl [(m0, .inr (8, [.ref mH, .int aM, .long va, .int mM, .long vq, .int vo, .int pL, .int lI, .int sW, .int dP, .int sT, .long aT, .int cH, .int iW, .ref mI, .ref mJ, .ref mS, .ref mD, .int iH, .int aE, .int mN, .long sZ, .ref mX, .int tS, .int tA, .int tW, .ref mA, .ref mB, .ref mW, .ref mL, .int lS]))] H → va_D A [(m0, .inr (8, [.ref mH, .int aM, .long va, .int mM, .long vq, .int vo, .int pL, .int lI, .int sW, .int dP, .int sT, .long aT, .int cH, .int iW, .ref mI, .ref mJ, .ref mS, .ref mD, .int iH, .int aE, .int mN, .long sZ, .ref mX, .int tS, .int tA, .int tW, .ref mA, .ref mB, .ref mW, .ref mL, .int lS]))] → va_S A s.heap H locs → ∀ ls : Array Slot, lv_has ls 6 [(3, .int j), (0, .ref m0), (1, .int n), (2, .int z)] → W p l e ({ frames := 0, cells := 0, slots := 0, locals := 0 }) s m args below meth c H locs 0 0 (MQ below (kQ (S := (Int32 × Int64 × Int64 × Int32)) eV (fun r u => jB_ (u.1) ∧ jB_ (u.2.2.2)) D (fun u => [(m0, .inr (8, [.ref mH, .int u.1, .long u.2.1, .int mM, .long u.2.2.1, .int u.2.2.2, .int pL, .int lI, .int sW, .int dP, .int sT, .long aT, .int cH, .int iW, .ref mI, .ref mJ, .ref mS, .ref mD, .int iH, .int aE, .int mN, .long sZ, .ref mX, .int tS, .int tA, .int tW, .ref mA, .ref mB, .ref mW, .ref mL, .int lS]))]) A) args s 0 0 A) (F0 m 2 ls []) := by
    intro k
    induction k with
    | zero =>
      intro j va vq vo hm
      exact absurd hm (Nat.not_lt_zero _)
    | succ k ih =>
      intro j va vq vo hm hvo H locs hP hD hS ls hl
      refine lv_iload_n hx hb dX8_left_2 rfl (lv_at hl 0 rfl) ?_
      refine lv_iload_n hx hb dX8_left_3 rfl (lv_at hl 2 rfl) ?_
      refine lv_icmp_ge (tgt := 103) hx hb dX8_left_4 (by decide) (fun c_4_0 => ?_) (fun c_4_0 => ?_)
      · have t_4_0 := c_4_0
        try simp only [kb_eq0, kb_ne0, lg_cmp_lt, lg_cmp_le, lg_cmp_gt, lg_cmp_ge, lg_cmp_eq] at t_4_0
        try simp only [Int32.lt_iff_toInt_lt, Int32.le_iff_toInt_le, ← Int32.toInt_inj, Int64.lt_iff_toInt_lt, Int64.le_iff_toInt_le, ← Int64.toInt_inj, Int32.toInt_toInt64, Int32.reduceToInt, Int64.reduceToInt] at t_4_0
        refine lv_aload_n hx hb dX8_left_103 rfl (lv_at hl 1 rfl) ?_
        refine lv_iload_n hx hb dX8_left_104 rfl (lv_at hl 3 rfl) ?_
        refine lv_if_eq (tgt := 115) hx hb dX8_left_105 (by decide) (fun c_105_1 => ?_) (fun c_105_1 => ?_)
        · have t_105_1 := c_105_1
          try simp only [kb_eq0, kb_ne0, lg_cmp_lt, lg_cmp_le, lg_cmp_gt, lg_cmp_ge, lg_cmp_eq] at t_105_1
          try simp only [Int32.lt_iff_toInt_lt, Int32.le_iff_toInt_le, ← Int32.toInt_inj, Int64.lt_iff_toInt_lt, Int64.le_iff_toInt_le, ← Int64.toInt_inj, Int32.toInt_toInt64, Int32.reduceToInt, Int64.reduceToInt] at t_105_1
          refine lv_aload_n hx hb dX8_left_115 rfl (lv_at hl 1 rfl) ?_
          refine va_get (D := D) (ci := 8) (v := .int aM) (C := RX8) (T := TX8) (N := 31) hx hb hts iX8_left_X8 hown hK hP 0 rfl rfl 1 (by decide) (hts (.fieldLink RX8 61 "TapeCalculatorModel" "accMinus" "Z") (List.mem_of_getElem? (i := 8) rfl)) (fun _ h9 => h9) rfl dX8_left_116 ?_
          refine va_put (D := D) (ci := 8) (v := .int aM) (ty := .boolean) (C := RX8) (T := TX8) (N := 31) hx hb hts iX8_left_X8 tyX8 tyX8_ok nmX8 hown hK hP hD hS 0 rfl rfl 1 (by decide) (hts (.fieldLink RX8 61 "TapeCalculatorModel" "accMinus" "Z") (List.mem_of_getElem? (i := 8) rfl)) (fun _ h9 => h9) rfl (by decide +kernel) (kz_n (k_b (by first | assumption | omega))) (kz_f (k_b (by first | assumption | omega))) (Nat.le_of_ble_eq_true rfl) dX8_left_119 (fun H locs hP hD hS => ?_)
          have hP : va_P D vwCl [(m0, .inr (8, [.ref mH, .int aM, .long va, .int mM, .long vq, .int vo, .int pL, .int lI, .int sW, .int dP, .int sT, .long aT, .int cH, .int iW, .ref mI, .ref mJ, .ref mS, .ref mD, .int iH, .int aE, .int mN, .long sZ, .ref mX, .int tS, .int tA, .int tW, .ref mA, .ref mB, .ref mW, .ref mL, .int lS]))] H := hP
          have hD : va_D A [(m0, .inr (8, [.ref mH, .int aM, .long va, .int mM, .long vq, .int vo, .int pL, .int lI, .int sW, .int dP, .int sT, .long aT, .int cH, .int iW, .ref mI, .ref mJ, .ref mS, .ref mD, .int iH, .int aE, .int mN, .long sZ, .ref mX, .int tS, .int tA, .int tW, .ref mA, .ref mB, .ref mW, .ref mL, .int lS]))] := hD
          refine kVret (u := (aM, va, vq, vo)) hx hb hr hlocks hS dX8_left_122 ?_ (hP.sub [0] rfl) (hD.sub [0] (by decide) rfl)
          try dsimp only
          repeat' (with_reducible apply And.intro)
          all_goals first | with_reducible assumption | ((try simp only [jT_, jP_, jD_, jC_, jB_, jW_, Int32.reduceToInt, Int64.reduceToInt, true_or, or_true, true_and, and_true]) <;> omega)
        · have t_105_1 := c_105_1
          try simp only [kb_eq0, kb_ne0, lg_cmp_lt, lg_cmp_le, lg_cmp_gt, lg_cmp_ge, lg_cmp_eq] at t_105_1
          try simp only [Int32.lt_iff_toInt_lt, Int32.le_iff_toInt_le, ← Int32.toInt_inj, Int64.lt_iff_toInt_lt, Int64.le_iff_toInt_le, ← Int64.toInt_inj, Int32.toInt_toInt64, Int32.reduceToInt, Int64.reduceToInt] at t_105_1
          refine lv_aload_n hx hb dX8_left_108 rfl (lv_at hl 1 rfl) ?_
          refine va_get (D := D) (ci := 8) (v := .int mM) (C := RX8) (T := TX8) (N := 31) hx hb hts iX8_left_X8 hown hK hP 0 rfl rfl 3 (by decide) (hts (.fieldLink RX8 69 "TapeCalculatorModel" "mqMinus" "Z") (List.mem_of_getElem? (i := 7) rfl)) (fun _ h9 => h9) rfl dX8_left_109 ?_
          refine lv_goto (tgt := 119) hx hb dX8_left_112 (by decide) ?_
          refine va_put (D := D) (ci := 8) (v := .int mM) (ty := .boolean) (C := RX8) (T := TX8) (N := 31) hx hb hts iX8_left_X8 tyX8 tyX8_ok nmX8 hown hK hP hD hS 0 rfl rfl 1 (by decide) (hts (.fieldLink RX8 61 "TapeCalculatorModel" "accMinus" "Z") (List.mem_of_getElem? (i := 8) rfl)) (fun _ h9 => h9) rfl (by decide +kernel) (kz_n (k_b (by first | assumption | omega))) (kz_f (k_b (by first | assumption | omega))) (Nat.le_of_ble_eq_true rfl) dX8_left_119 (fun H locs hP hD hS => ?_)
          have hP : va_P D vwCl [(m0, .inr (8, [.ref mH, .int mM, .long va, .int mM, .long vq, .int vo, .int pL, .int lI, .int sW, .int dP, .int sT, .long aT, .int cH, .int iW, .ref mI, .ref mJ, .ref mS, .ref mD, .int iH, .int aE, .int mN, .long sZ, .ref mX, .int tS, .int tA, .int tW, .ref mA, .ref mB, .ref mW, .ref mL, .int lS]))] H := hP
          have hD : va_D A [(m0, .inr (8, [.ref mH, .int mM, .long va, .int mM, .long vq, .int vo, .int pL, .int lI, .int sW, .int dP, .int sT, .long aT, .int cH, .int iW, .ref mI, .ref mJ, .ref mS, .ref mD, .int iH, .int aE, .int mN, .long sZ, .ref mX, .int tS, .int tA, .int tW, .ref mA, .ref mB, .ref mW, .ref mL, .int lS]))] := hD
          refine kVret (u := (mM, va, vq, vo)) hx hb hr hlocks hS dX8_left_122 ?_ (hP.sub [0] rfl) (hD.sub [0] (by decide) rfl)
          try dsimp only
          repeat' (with_reducible apply And.intro)
          all_goals first | with_reducible assumption | ((try simp only [jT_, jP_, jD_, jC_, jB_, jW_, Int32.reduceToInt, Int64.reduceToInt, true_or, or_true, true_and, and_true]) <;> omega)
      · have t_4_0 := c_4_0
        try simp only [kb_eq0, kb_ne0, lg_cmp_lt, lg_cmp_le, lg_cmp_gt, lg_cmp_ge, lg_cmp_eq] at t_4_0
        try simp only [Int32.lt_iff_toInt_lt, Int32.le_iff_toInt_le, ← Int32.toInt_inj, Int64.lt_iff_toInt_lt, Int64.le_iff_toInt_le, ← Int64.toInt_inj, Int32.toInt_toInt64, Int32.reduceToInt, Int64.reduceToInt] at t_4_0
        refine lv_iload_n hx hb dX8_left_7 rfl (lv_at hl 3 rfl) ?_
        refine lv_if_eq (tgt := 23) hx hb dX8_left_8 (by decide) (fun c_8_2 => ?_) (fun c_8_2 => ?_)
        · have t_8_2 := c_8_2
          try simp only [kb_eq0, kb_ne0, lg_cmp_lt, lg_cmp_le, lg_cmp_gt, lg_cmp_ge, lg_cmp_eq] at t_8_2
          try simp only [Int32.lt_iff_toInt_lt, Int32.le_iff_toInt_le, ← Int32.toInt_inj, Int64.lt_iff_toInt_lt, Int64.le_iff_toInt_le, ← Int64.toInt_inj, Int32.toInt_toInt64, Int32.reduceToInt, Int64.reduceToInt] at t_8_2
          refine lv_lconst (v := 0) hx hb dX8_left_23 (by decide) ?_
          refine lv_lstore (lv' := [(4, .long 0), (3, .int j), (0, .ref m0), (1, .int n), (2, .int z)]) hx hb dX8_left_24 hl (by decide) rfl (fun ls hl => ?_)
          refine lv_aload_n hx hb dX8_left_26 rfl (lv_at hl 2 rfl) ?_
          refine lv_aload_n hx hb dX8_left_27 rfl (lv_at hl 2 rfl) ?_
          refine va_get (D := D) (ci := 8) (v := .long va) (C := RX8) (T := TX8) (N := 31) hx hb hts iX8_left_X8 hown hK hP 0 rfl rfl 2 (by decide) (hts (.fieldLink RX8 65 "TapeCalculatorModel" "acc" "J") (List.mem_of_getElem? (i := 2) rfl)) (fun _ h9 => h9) rfl dX8_left_28 ?_
          refine lv_iconst (v := 1) hx hb dX8_left_31 (by decide) ?_
          refine lv_lshl hx hb dX8_left_32 rfl ?_
          refine lv_lload hx hb dX8_left_33 (lv_at hl 0 rfl) ?_
          refine lv_lor hx hb dX8_left_35 ?_
          refine lv_ldc2 (v := 137438953471) hx hb hown (hts (.constantLong RX8 90 (137438953471)) (List.mem_of_getElem? (i := 3) rfl)) dX8_left_36 ?_
          refine lv_land hx hb dX8_left_39 ?_
          refine lv_topl (fun x_4 ex_4 => ?_)
          refine va_put (D := D) (ci := 8) (v := .long x_4) (ty := .long) (C := RX8) (T := TX8) (N := 31) hx hb hts iX8_left_X8 tyX8 tyX8_ok nmX8 hown hK hP hD hS 0 rfl rfl 2 (by decide) (hts (.fieldLink RX8 65 "TapeCalculatorModel" "acc" "J") (List.mem_of_getElem? (i := 2) rfl)) (fun _ h9 => h9) rfl (by decide +kernel) rfl rfl (Nat.le_of_ble_eq_true rfl) dX8_left_40 (fun H locs hP hD hS => ?_)
          have hP : va_P D vwCl [(m0, .inr (8, [.ref mH, .int aM, .long x_4, .int mM, .long vq, .int vo, .int pL, .int lI, .int sW, .int dP, .int sT, .long aT, .int cH, .int iW, .ref mI, .ref mJ, .ref mS, .ref mD, .int iH, .int aE, .int mN, .long sZ, .ref mX, .int tS, .int tA, .int tW, .ref mA, .ref mB, .ref mW, .ref mL, .int lS]))] H := hP
          have hD : va_D A [(m0, .inr (8, [.ref mH, .int aM, .long x_4, .int mM, .long vq, .int vo, .int pL, .int lI, .int sW, .int dP, .int sT, .long aT, .int cH, .int iW, .ref mI, .ref mJ, .ref mS, .ref mD, .int iH, .int aE, .int mN, .long sZ, .ref mX, .int tS, .int tA, .int tW, .ref mA, .ref mB, .ref mW, .ref mL, .int lS]))] := hD
          refine lv_aload_n hx hb dX8_left_43 rfl (lv_at hl 2 rfl) ?_
          refine lv_iload_n hx hb dX8_left_44 rfl (lv_at hl 4 rfl) ?_
          refine lv_if_eq (tgt := 61) hx hb dX8_left_45 (by decide) (fun c_45_4 => ?_) (fun c_45_4 => ?_)
          · have t_45_4 := c_45_4
            try simp only [kb_eq0, kb_ne0, lg_cmp_lt, lg_cmp_le, lg_cmp_gt, lg_cmp_ge, lg_cmp_eq] at t_45_4
            try simp only [Int32.lt_iff_toInt_lt, Int32.le_iff_toInt_le, ← Int32.toInt_inj, Int64.lt_iff_toInt_lt, Int64.le_iff_toInt_le, ← Int64.toInt_inj, Int32.toInt_toInt64, Int32.reduceToInt, Int64.reduceToInt] at t_45_4
            refine lv_aload_n hx hb dX8_left_61 rfl (lv_at hl 2 rfl) ?_
            refine va_get (D := D) (ci := 8) (v := .long vq) (C := RX8) (T := TX8) (N := 31) hx hb hts iX8_left_X8 hown hK hP 0 rfl rfl 4 (by decide) (hts (.fieldLink RX8 72 "TapeCalculatorModel" "mq" "J") (List.mem_of_getElem? (i := 1) rfl)) (fun _ h9 => h9) rfl dX8_left_62 ?_
            refine va_put (D := D) (ci := 8) (v := .long vq) (ty := .long) (C := RX8) (T := TX8) (N := 31) hx hb hts iX8_left_X8 tyX8 tyX8_ok nmX8 hown hK hP hD hS 0 rfl rfl 4 (by decide) (hts (.fieldLink RX8 72 "TapeCalculatorModel" "mq" "J") (List.mem_of_getElem? (i := 1) rfl)) (fun _ h9 => h9) rfl (by decide +kernel) rfl rfl (Nat.le_of_ble_eq_true rfl) dX8_left_65 (fun H locs hP hD hS => ?_)
            have hP : va_P D vwCl [(m0, .inr (8, [.ref mH, .int aM, .long x_4, .int mM, .long vq, .int vo, .int pL, .int lI, .int sW, .int dP, .int sT, .long aT, .int cH, .int iW, .ref mI, .ref mJ, .ref mS, .ref mD, .int iH, .int aE, .int mN, .long sZ, .ref mX, .int tS, .int tA, .int tW, .ref mA, .ref mB, .ref mW, .ref mL, .int lS]))] H := hP
            have hD : va_D A [(m0, .inr (8, [.ref mH, .int aM, .long x_4, .int mM, .long vq, .int vo, .int pL, .int lI, .int sW, .int dP, .int sT, .long aT, .int cH, .int iW, .ref mI, .ref mJ, .ref mS, .ref mD, .int iH, .int aE, .int mN, .long sZ, .ref mX, .int tS, .int tA, .int tW, .ref mA, .ref mB, .ref mW, .ref mL, .int lS]))] := hD
            refine lv_aload_n hx hb dX8_left_68 rfl (lv_at hl 2 rfl) ?_
            refine lv_aload_n hx hb dX8_left_69 rfl (lv_at hl 2 rfl) ?_
            refine va_get (D := D) (ci := 8) (v := .int vo) (C := RX8) (T := TX8) (N := 31) hx hb hts iX8_left_X8 hown hK hP 0 rfl rfl 5 (by decide) (hts (.fieldLink RX8 75 "TapeCalculatorModel" "over" "Z") (List.mem_of_getElem? (i := 5) rfl)) (fun _ h9 => h9) rfl dX8_left_70 ?_
            refine lv_if_ne (tgt := 89) hx hb dX8_left_73 (by decide) (fun c_73_5 => ?_) (fun c_73_5 => ?_)
            · have t_73_5 := c_73_5
              try simp only [kb_eq0, kb_ne0, lg_cmp_lt, lg_cmp_le, lg_cmp_gt, lg_cmp_ge, lg_cmp_eq] at t_73_5
              try simp only [Int32.lt_iff_toInt_lt, Int32.le_iff_toInt_le, ← Int32.toInt_inj, Int64.lt_iff_toInt_lt, Int64.le_iff_toInt_le, ← Int64.toInt_inj, Int32.toInt_toInt64, Int32.reduceToInt, Int64.reduceToInt] at t_73_5
              refine lv_iconst (v := 1) hx hb dX8_left_89 (by decide) ?_
              refine lv_goto (tgt := 94) hx hb dX8_left_90 (by decide) ?_
              refine va_put (D := D) (ci := 8) (v := .int 1) (ty := .boolean) (C := RX8) (T := TX8) (N := 31) hx hb hts iX8_left_X8 tyX8 tyX8_ok nmX8 hown hK hP hD hS 0 rfl rfl 5 (by decide) (hts (.fieldLink RX8 75 "TapeCalculatorModel" "over" "Z") (List.mem_of_getElem? (i := 5) rfl)) (fun _ h9 => h9) rfl (by decide +kernel) rfl rfl (Nat.le_of_ble_eq_true rfl) dX8_left_94 (fun H locs hP hD hS => ?_)
              have hP : va_P D vwCl [(m0, .inr (8, [.ref mH, .int aM, .long x_4, .int mM, .long vq, .int 1, .int pL, .int lI, .int sW, .int dP, .int sT, .long aT, .int cH, .int iW, .ref mI, .ref mJ, .ref mS, .ref mD, .int iH, .int aE, .int mN, .long sZ, .ref mX, .int tS, .int tA, .int tW, .ref mA, .ref mB, .ref mW, .ref mL, .int lS]))] H := hP
              have hD : va_D A [(m0, .inr (8, [.ref mH, .int aM, .long x_4, .int mM, .long vq, .int 1, .int pL, .int lI, .int sW, .int dP, .int sT, .long aT, .int cH, .int iW, .ref mI, .ref mJ, .ref mS, .ref mD, .int iH, .int aE, .int mN, .long sZ, .ref mX, .int tS, .int tA, .int tW, .ref mA, .ref mB, .ref mW, .ref mL, .int lS]))] := hD
              obtain ⟨x_7, ex_7⟩ : ∃ y : Int32, y = j + 1 := ⟨_, rfl⟩
              refine lv_iinc (v := x_7) (lv' := [(3, .int x_7), (4, .long 0), (0, .ref m0), (1, .int n), (2, .int z)]) hx hb dX8_left_97 hl (k := 1) rfl (by rw [ex_7]; rfl) (by decide) rfl (fun ls hl => ?_)
              refine lv_goto (tgt := 2) hx hb dX8_left_100 (by decide) ?_
              have hd := k_inc (i := j) (n := n) (by omega)
              rw [← ex_7] at hd
              exact ih x_7 x_4 vq 1 (by omega) (by first | with_reducible assumption | ((try simp only [jT_, jP_, jD_, jC_, jB_, jW_, Int32.reduceToInt, Int64.reduceToInt, true_or, or_true, true_and, and_true]) <;> omega)) _ _ (hP.sub [0] rfl) (hD.sub [0] (by decide) rfl) hS ls (lv_sub hl [0, 2, 3, 4] rfl)
            · have t_73_5 := c_73_5
              try simp only [kb_eq0, kb_ne0, lg_cmp_lt, lg_cmp_le, lg_cmp_gt, lg_cmp_ge, lg_cmp_eq] at t_73_5
              try simp only [Int32.lt_iff_toInt_lt, Int32.le_iff_toInt_le, ← Int32.toInt_inj, Int64.lt_iff_toInt_lt, Int64.le_iff_toInt_le, ← Int64.toInt_inj, Int32.toInt_toInt64, Int32.reduceToInt, Int64.reduceToInt] at t_73_5
              refine lv_aload_n hx hb dX8_left_76 rfl (lv_at hl 2 rfl) ?_
              refine va_get (D := D) (ci := 8) (v := .long x_4) (C := RX8) (T := TX8) (N := 31) hx hb hts iX8_left_X8 hown hK hP 0 rfl rfl 2 (by decide) (hts (.fieldLink RX8 65 "TapeCalculatorModel" "acc" "J") (List.mem_of_getElem? (i := 2) rfl)) (fun _ h9 => h9) rfl dX8_left_77 ?_
              refine lv_ldc2 (v := 34359738368) hx hb hown (hts (.constantLong RX8 140 (34359738368)) (List.mem_of_getElem? (i := 6) rfl)) dX8_left_80 ?_
              refine lv_land hx hb dX8_left_83 ?_
              refine lv_lconst (v := 0) hx hb dX8_left_84 (by decide) ?_
              refine W.lcmp hx hb dX8_left_85 ?_
              refine lv_if_eq (tgt := 93) hx hb dX8_left_86 (by decide) (fun c_86_7 => ?_) (fun c_86_7 => ?_)
              · have t_86_7 := c_86_7
                try simp only [kb_eq0, kb_ne0, lg_cmp_lt, lg_cmp_le, lg_cmp_gt, lg_cmp_ge, lg_cmp_eq] at t_86_7
                try simp only [Int32.lt_iff_toInt_lt, Int32.le_iff_toInt_le, ← Int32.toInt_inj, Int64.lt_iff_toInt_lt, Int64.le_iff_toInt_le, ← Int64.toInt_inj, Int32.toInt_toInt64, Int32.reduceToInt, Int64.reduceToInt] at t_86_7
                refine lv_iconst (v := 0) hx hb dX8_left_93 (by decide) ?_
                refine va_put (D := D) (ci := 8) (v := .int 0) (ty := .boolean) (C := RX8) (T := TX8) (N := 31) hx hb hts iX8_left_X8 tyX8 tyX8_ok nmX8 hown hK hP hD hS 0 rfl rfl 5 (by decide) (hts (.fieldLink RX8 75 "TapeCalculatorModel" "over" "Z") (List.mem_of_getElem? (i := 5) rfl)) (fun _ h9 => h9) rfl (by decide +kernel) rfl rfl (Nat.le_of_ble_eq_true rfl) dX8_left_94 (fun H locs hP hD hS => ?_)
                have hP : va_P D vwCl [(m0, .inr (8, [.ref mH, .int aM, .long x_4, .int mM, .long vq, .int 0, .int pL, .int lI, .int sW, .int dP, .int sT, .long aT, .int cH, .int iW, .ref mI, .ref mJ, .ref mS, .ref mD, .int iH, .int aE, .int mN, .long sZ, .ref mX, .int tS, .int tA, .int tW, .ref mA, .ref mB, .ref mW, .ref mL, .int lS]))] H := hP
                have hD : va_D A [(m0, .inr (8, [.ref mH, .int aM, .long x_4, .int mM, .long vq, .int 0, .int pL, .int lI, .int sW, .int dP, .int sT, .long aT, .int cH, .int iW, .ref mI, .ref mJ, .ref mS, .ref mD, .int iH, .int aE, .int mN, .long sZ, .ref mX, .int tS, .int tA, .int tW, .ref mA, .ref mB, .ref mW, .ref mL, .int lS]))] := hD
                obtain ⟨x_9, ex_9⟩ : ∃ y : Int32, y = j + 1 := ⟨_, rfl⟩
                refine lv_iinc (v := x_9) (lv' := [(3, .int x_9), (4, .long 0), (0, .ref m0), (1, .int n), (2, .int z)]) hx hb dX8_left_97 hl (k := 1) rfl (by rw [ex_9]; rfl) (by decide) rfl (fun ls hl => ?_)
                refine lv_goto (tgt := 2) hx hb dX8_left_100 (by decide) ?_
                have hd := k_inc (i := j) (n := n) (by omega)
                rw [← ex_9] at hd
                exact ih x_9 x_4 vq 0 (by omega) (by first | with_reducible assumption | ((try simp only [jT_, jP_, jD_, jC_, jB_, jW_, Int32.reduceToInt, Int64.reduceToInt, true_or, or_true, true_and, and_true]) <;> omega)) _ _ (hP.sub [0] rfl) (hD.sub [0] (by decide) rfl) hS ls (lv_sub hl [0, 2, 3, 4] rfl)
              · have t_86_7 := c_86_7
                try simp only [kb_eq0, kb_ne0, lg_cmp_lt, lg_cmp_le, lg_cmp_gt, lg_cmp_ge, lg_cmp_eq] at t_86_7
                try simp only [Int32.lt_iff_toInt_lt, Int32.le_iff_toInt_le, ← Int32.toInt_inj, Int64.lt_iff_toInt_lt, Int64.le_iff_toInt_le, ← Int64.toInt_inj, Int32.toInt_toInt64, Int32.reduceToInt, Int64.reduceToInt] at t_86_7
                refine lv_iconst (v := 1) hx hb dX8_left_89 (by decide) ?_
                refine lv_goto (tgt := 94) hx hb dX8_left_90 (by decide) ?_
                refine va_put (D := D) (ci := 8) (v := .int 1) (ty := .boolean) (C := RX8) (T := TX8) (N := 31) hx hb hts iX8_left_X8 tyX8 tyX8_ok nmX8 hown hK hP hD hS 0 rfl rfl 5 (by decide) (hts (.fieldLink RX8 75 "TapeCalculatorModel" "over" "Z") (List.mem_of_getElem? (i := 5) rfl)) (fun _ h9 => h9) rfl (by decide +kernel) rfl rfl (Nat.le_of_ble_eq_true rfl) dX8_left_94 (fun H locs hP hD hS => ?_)
                have hP : va_P D vwCl [(m0, .inr (8, [.ref mH, .int aM, .long x_4, .int mM, .long vq, .int 1, .int pL, .int lI, .int sW, .int dP, .int sT, .long aT, .int cH, .int iW, .ref mI, .ref mJ, .ref mS, .ref mD, .int iH, .int aE, .int mN, .long sZ, .ref mX, .int tS, .int tA, .int tW, .ref mA, .ref mB, .ref mW, .ref mL, .int lS]))] H := hP
                have hD : va_D A [(m0, .inr (8, [.ref mH, .int aM, .long x_4, .int mM, .long vq, .int 1, .int pL, .int lI, .int sW, .int dP, .int sT, .long aT, .int cH, .int iW, .ref mI, .ref mJ, .ref mS, .ref mD, .int iH, .int aE, .int mN, .long sZ, .ref mX, .int tS, .int tA, .int tW, .ref mA, .ref mB, .ref mW, .ref mL, .int lS]))] := hD
                obtain ⟨x_10, ex_10⟩ : ∃ y : Int32, y = j + 1 := ⟨_, rfl⟩
                refine lv_iinc (v := x_10) (lv' := [(3, .int x_10), (4, .long 0), (0, .ref m0), (1, .int n), (2, .int z)]) hx hb dX8_left_97 hl (k := 1) rfl (by rw [ex_10]; rfl) (by decide) rfl (fun ls hl => ?_)
                refine lv_goto (tgt := 2) hx hb dX8_left_100 (by decide) ?_
                have hd := k_inc (i := j) (n := n) (by omega)
                rw [← ex_10] at hd
                exact ih x_10 x_4 vq 1 (by omega) (by first | with_reducible assumption | ((try simp only [jT_, jP_, jD_, jC_, jB_, jW_, Int32.reduceToInt, Int64.reduceToInt, true_or, or_true, true_and, and_true]) <;> omega)) _ _ (hP.sub [0] rfl) (hD.sub [0] (by decide) rfl) hS ls (lv_sub hl [0, 2, 3, 4] rfl)
          · have t_45_4 := c_45_4
            try simp only [kb_eq0, kb_ne0, lg_cmp_lt, lg_cmp_le, lg_cmp_gt, lg_cmp_ge, lg_cmp_eq] at t_45_4
            try simp only [Int32.lt_iff_toInt_lt, Int32.le_iff_toInt_le, ← Int32.toInt_inj, Int64.lt_iff_toInt_lt, Int64.le_iff_toInt_le, ← Int64.toInt_inj, Int32.toInt_toInt64, Int32.reduceToInt, Int64.reduceToInt] at t_45_4
            refine lv_aload_n hx hb dX8_left_48 rfl (lv_at hl 2 rfl) ?_
            refine va_get (D := D) (ci := 8) (v := .long vq) (C := RX8) (T := TX8) (N := 31) hx hb hts iX8_left_X8 hown hK hP 0 rfl rfl 4 (by decide) (hts (.fieldLink RX8 72 "TapeCalculatorModel" "mq" "J") (List.mem_of_getElem? (i := 1) rfl)) (fun _ h9 => h9) rfl dX8_left_49 ?_
            refine lv_iconst (v := 1) hx hb dX8_left_52 (by decide) ?_
            refine lv_lshl hx hb dX8_left_53 rfl ?_
            refine lv_ldc2 (v := 34359738367) hx hb hown (hts (.constantLong RX8 92 (34359738367)) (List.mem_of_getElem? (i := 4) rfl)) dX8_left_54 ?_
            refine lv_land hx hb dX8_left_57 ?_
            refine lv_goto (tgt := 65) hx hb dX8_left_58 (by decide) ?_
            refine lv_topl (fun x_11 ex_11 => ?_)
            refine va_put (D := D) (ci := 8) (v := .long x_11) (ty := .long) (C := RX8) (T := TX8) (N := 31) hx hb hts iX8_left_X8 tyX8 tyX8_ok nmX8 hown hK hP hD hS 0 rfl rfl 4 (by decide) (hts (.fieldLink RX8 72 "TapeCalculatorModel" "mq" "J") (List.mem_of_getElem? (i := 1) rfl)) (fun _ h9 => h9) rfl (by decide +kernel) rfl rfl (Nat.le_of_ble_eq_true rfl) dX8_left_65 (fun H locs hP hD hS => ?_)
            have hP : va_P D vwCl [(m0, .inr (8, [.ref mH, .int aM, .long x_4, .int mM, .long x_11, .int vo, .int pL, .int lI, .int sW, .int dP, .int sT, .long aT, .int cH, .int iW, .ref mI, .ref mJ, .ref mS, .ref mD, .int iH, .int aE, .int mN, .long sZ, .ref mX, .int tS, .int tA, .int tW, .ref mA, .ref mB, .ref mW, .ref mL, .int lS]))] H := hP
            have hD : va_D A [(m0, .inr (8, [.ref mH, .int aM, .long x_4, .int mM, .long x_11, .int vo, .int pL, .int lI, .int sW, .int dP, .int sT, .long aT, .int cH, .int iW, .ref mI, .ref mJ, .ref mS, .ref mD, .int iH, .int aE, .int mN, .long sZ, .ref mX, .int tS, .int tA, .int tW, .ref mA, .ref mB, .ref mW, .ref mL, .int lS]))] := hD
            refine lv_aload_n hx hb dX8_left_68 rfl (lv_at hl 2 rfl) ?_
            refine lv_aload_n hx hb dX8_left_69 rfl (lv_at hl 2 rfl) ?_
            refine va_get (D := D) (ci := 8) (v := .int vo) (C := RX8) (T := TX8) (N := 31) hx hb hts iX8_left_X8 hown hK hP 0 rfl rfl 5 (by decide) (hts (.fieldLink RX8 75 "TapeCalculatorModel" "over" "Z") (List.mem_of_getElem? (i := 5) rfl)) (fun _ h9 => h9) rfl dX8_left_70 ?_
            refine lv_if_ne (tgt := 89) hx hb dX8_left_73 (by decide) (fun c_73_11 => ?_) (fun c_73_11 => ?_)
            · have t_73_11 := c_73_11
              try simp only [kb_eq0, kb_ne0, lg_cmp_lt, lg_cmp_le, lg_cmp_gt, lg_cmp_ge, lg_cmp_eq] at t_73_11
              try simp only [Int32.lt_iff_toInt_lt, Int32.le_iff_toInt_le, ← Int32.toInt_inj, Int64.lt_iff_toInt_lt, Int64.le_iff_toInt_le, ← Int64.toInt_inj, Int32.toInt_toInt64, Int32.reduceToInt, Int64.reduceToInt] at t_73_11
              refine lv_iconst (v := 1) hx hb dX8_left_89 (by decide) ?_
              refine lv_goto (tgt := 94) hx hb dX8_left_90 (by decide) ?_
              refine va_put (D := D) (ci := 8) (v := .int 1) (ty := .boolean) (C := RX8) (T := TX8) (N := 31) hx hb hts iX8_left_X8 tyX8 tyX8_ok nmX8 hown hK hP hD hS 0 rfl rfl 5 (by decide) (hts (.fieldLink RX8 75 "TapeCalculatorModel" "over" "Z") (List.mem_of_getElem? (i := 5) rfl)) (fun _ h9 => h9) rfl (by decide +kernel) rfl rfl (Nat.le_of_ble_eq_true rfl) dX8_left_94 (fun H locs hP hD hS => ?_)
              have hP : va_P D vwCl [(m0, .inr (8, [.ref mH, .int aM, .long x_4, .int mM, .long x_11, .int 1, .int pL, .int lI, .int sW, .int dP, .int sT, .long aT, .int cH, .int iW, .ref mI, .ref mJ, .ref mS, .ref mD, .int iH, .int aE, .int mN, .long sZ, .ref mX, .int tS, .int tA, .int tW, .ref mA, .ref mB, .ref mW, .ref mL, .int lS]))] H := hP
              have hD : va_D A [(m0, .inr (8, [.ref mH, .int aM, .long x_4, .int mM, .long x_11, .int 1, .int pL, .int lI, .int sW, .int dP, .int sT, .long aT, .int cH, .int iW, .ref mI, .ref mJ, .ref mS, .ref mD, .int iH, .int aE, .int mN, .long sZ, .ref mX, .int tS, .int tA, .int tW, .ref mA, .ref mB, .ref mW, .ref mL, .int lS]))] := hD
              obtain ⟨x_13, ex_13⟩ : ∃ y : Int32, y = j + 1 := ⟨_, rfl⟩
              refine lv_iinc (v := x_13) (lv' := [(3, .int x_13), (4, .long 0), (0, .ref m0), (1, .int n), (2, .int z)]) hx hb dX8_left_97 hl (k := 1) rfl (by rw [ex_13]; rfl) (by decide) rfl (fun ls hl => ?_)
              refine lv_goto (tgt := 2) hx hb dX8_left_100 (by decide) ?_
              have hd := k_inc (i := j) (n := n) (by omega)
              rw [← ex_13] at hd
              exact ih x_13 x_4 x_11 1 (by omega) (by first | with_reducible assumption | ((try simp only [jT_, jP_, jD_, jC_, jB_, jW_, Int32.reduceToInt, Int64.reduceToInt, true_or, or_true, true_and, and_true]) <;> omega)) _ _ (hP.sub [0] rfl) (hD.sub [0] (by decide) rfl) hS ls (lv_sub hl [0, 2, 3, 4] rfl)
            · have t_73_11 := c_73_11
              try simp only [kb_eq0, kb_ne0, lg_cmp_lt, lg_cmp_le, lg_cmp_gt, lg_cmp_ge, lg_cmp_eq] at t_73_11
              try simp only [Int32.lt_iff_toInt_lt, Int32.le_iff_toInt_le, ← Int32.toInt_inj, Int64.lt_iff_toInt_lt, Int64.le_iff_toInt_le, ← Int64.toInt_inj, Int32.toInt_toInt64, Int32.reduceToInt, Int64.reduceToInt] at t_73_11
              refine lv_aload_n hx hb dX8_left_76 rfl (lv_at hl 2 rfl) ?_
              refine va_get (D := D) (ci := 8) (v := .long x_4) (C := RX8) (T := TX8) (N := 31) hx hb hts iX8_left_X8 hown hK hP 0 rfl rfl 2 (by decide) (hts (.fieldLink RX8 65 "TapeCalculatorModel" "acc" "J") (List.mem_of_getElem? (i := 2) rfl)) (fun _ h9 => h9) rfl dX8_left_77 ?_
              refine lv_ldc2 (v := 34359738368) hx hb hown (hts (.constantLong RX8 140 (34359738368)) (List.mem_of_getElem? (i := 6) rfl)) dX8_left_80 ?_
              refine lv_land hx hb dX8_left_83 ?_
              refine lv_lconst (v := 0) hx hb dX8_left_84 (by decide) ?_
              refine W.lcmp hx hb dX8_left_85 ?_
              refine lv_if_eq (tgt := 93) hx hb dX8_left_86 (by decide) (fun c_86_13 => ?_) (fun c_86_13 => ?_)
              · have t_86_13 := c_86_13
                try simp only [kb_eq0, kb_ne0, lg_cmp_lt, lg_cmp_le, lg_cmp_gt, lg_cmp_ge, lg_cmp_eq] at t_86_13
                try simp only [Int32.lt_iff_toInt_lt, Int32.le_iff_toInt_le, ← Int32.toInt_inj, Int64.lt_iff_toInt_lt, Int64.le_iff_toInt_le, ← Int64.toInt_inj, Int32.toInt_toInt64, Int32.reduceToInt, Int64.reduceToInt] at t_86_13
                refine lv_iconst (v := 0) hx hb dX8_left_93 (by decide) ?_
                refine va_put (D := D) (ci := 8) (v := .int 0) (ty := .boolean) (C := RX8) (T := TX8) (N := 31) hx hb hts iX8_left_X8 tyX8 tyX8_ok nmX8 hown hK hP hD hS 0 rfl rfl 5 (by decide) (hts (.fieldLink RX8 75 "TapeCalculatorModel" "over" "Z") (List.mem_of_getElem? (i := 5) rfl)) (fun _ h9 => h9) rfl (by decide +kernel) rfl rfl (Nat.le_of_ble_eq_true rfl) dX8_left_94 (fun H locs hP hD hS => ?_)
                have hP : va_P D vwCl [(m0, .inr (8, [.ref mH, .int aM, .long x_4, .int mM, .long x_11, .int 0, .int pL, .int lI, .int sW, .int dP, .int sT, .long aT, .int cH, .int iW, .ref mI, .ref mJ, .ref mS, .ref mD, .int iH, .int aE, .int mN, .long sZ, .ref mX, .int tS, .int tA, .int tW, .ref mA, .ref mB, .ref mW, .ref mL, .int lS]))] H := hP
                have hD : va_D A [(m0, .inr (8, [.ref mH, .int aM, .long x_4, .int mM, .long x_11, .int 0, .int pL, .int lI, .int sW, .int dP, .int sT, .long aT, .int cH, .int iW, .ref mI, .ref mJ, .ref mS, .ref mD, .int iH, .int aE, .int mN, .long sZ, .ref mX, .int tS, .int tA, .int tW, .ref mA, .ref mB, .ref mW, .ref mL, .int lS]))] := hD
                obtain ⟨x_15, ex_15⟩ : ∃ y : Int32, y = j + 1 := ⟨_, rfl⟩
                refine lv_iinc (v := x_15) (lv' := [(3, .int x_15), (4, .long 0), (0, .ref m0), (1, .int n), (2, .int z)]) hx hb dX8_left_97 hl (k := 1) rfl (by rw [ex_15]; rfl) (by decide) rfl (fun ls hl => ?_)
                refine lv_goto (tgt := 2) hx hb dX8_left_100 (by decide) ?_
                have hd := k_inc (i := j) (n := n) (by omega)
                rw [← ex_15] at hd
                exact ih x_15 x_4 x_11 0 (by omega) (by first | with_reducible assumption | ((try simp only [jT_, jP_, jD_, jC_, jB_, jW_, Int32.reduceToInt, Int64.reduceToInt, true_or, or_true, true_and, and_true]) <;> omega)) _ _ (hP.sub [0] rfl) (hD.sub [0] (by decide) rfl) hS ls (lv_sub hl [0, 2, 3, 4] rfl)
              · have t_86_13 := c_86_13
                try simp only [kb_eq0, kb_ne0, lg_cmp_lt, lg_cmp_le, lg_cmp_gt, lg_cmp_ge, lg_cmp_eq] at t_86_13
                try simp only [Int32.lt_iff_toInt_lt, Int32.le_iff_toInt_le, ← Int32.toInt_inj, Int64.lt_iff_toInt_lt, Int64.le_iff_toInt_le, ← Int64.toInt_inj, Int32.toInt_toInt64, Int32.reduceToInt, Int64.reduceToInt] at t_86_13
                refine lv_iconst (v := 1) hx hb dX8_left_89 (by decide) ?_
                refine lv_goto (tgt := 94) hx hb dX8_left_90 (by decide) ?_
                refine va_put (D := D) (ci := 8) (v := .int 1) (ty := .boolean) (C := RX8) (T := TX8) (N := 31) hx hb hts iX8_left_X8 tyX8 tyX8_ok nmX8 hown hK hP hD hS 0 rfl rfl 5 (by decide) (hts (.fieldLink RX8 75 "TapeCalculatorModel" "over" "Z") (List.mem_of_getElem? (i := 5) rfl)) (fun _ h9 => h9) rfl (by decide +kernel) rfl rfl (Nat.le_of_ble_eq_true rfl) dX8_left_94 (fun H locs hP hD hS => ?_)
                have hP : va_P D vwCl [(m0, .inr (8, [.ref mH, .int aM, .long x_4, .int mM, .long x_11, .int 1, .int pL, .int lI, .int sW, .int dP, .int sT, .long aT, .int cH, .int iW, .ref mI, .ref mJ, .ref mS, .ref mD, .int iH, .int aE, .int mN, .long sZ, .ref mX, .int tS, .int tA, .int tW, .ref mA, .ref mB, .ref mW, .ref mL, .int lS]))] H := hP
                have hD : va_D A [(m0, .inr (8, [.ref mH, .int aM, .long x_4, .int mM, .long x_11, .int 1, .int pL, .int lI, .int sW, .int dP, .int sT, .long aT, .int cH, .int iW, .ref mI, .ref mJ, .ref mS, .ref mD, .int iH, .int aE, .int mN, .long sZ, .ref mX, .int tS, .int tA, .int tW, .ref mA, .ref mB, .ref mW, .ref mL, .int lS]))] := hD
                obtain ⟨x_16, ex_16⟩ : ∃ y : Int32, y = j + 1 := ⟨_, rfl⟩
                refine lv_iinc (v := x_16) (lv' := [(3, .int x_16), (4, .long 0), (0, .ref m0), (1, .int n), (2, .int z)]) hx hb dX8_left_97 hl (k := 1) rfl (by rw [ex_16]; rfl) (by decide) rfl (fun ls hl => ?_)
                refine lv_goto (tgt := 2) hx hb dX8_left_100 (by decide) ?_
                have hd := k_inc (i := j) (n := n) (by omega)
                rw [← ex_16] at hd
                exact ih x_16 x_4 x_11 1 (by omega) (by first | with_reducible assumption | ((try simp only [jT_, jP_, jD_, jC_, jB_, jW_, Int32.reduceToInt, Int64.reduceToInt, true_or, or_true, true_and, and_true]) <;> omega)) _ _ (hP.sub [0] rfl) (hD.sub [0] (by decide) rfl) hS ls (lv_sub hl [0, 2, 3, 4] rfl)
        · have t_8_2 := c_8_2
          try simp only [kb_eq0, kb_ne0, lg_cmp_lt, lg_cmp_le, lg_cmp_gt, lg_cmp_ge, lg_cmp_eq] at t_8_2
          try simp only [Int32.lt_iff_toInt_lt, Int32.le_iff_toInt_le, ← Int32.toInt_inj, Int64.lt_iff_toInt_lt, Int64.le_iff_toInt_le, ← Int64.toInt_inj, Int32.toInt_toInt64, Int32.reduceToInt, Int64.reduceToInt] at t_8_2
          refine lv_aload_n hx hb dX8_left_11 rfl (lv_at hl 1 rfl) ?_
          refine va_get (D := D) (ci := 8) (v := .long vq) (C := RX8) (T := TX8) (N := 31) hx hb hts iX8_left_X8 hown hK hP 0 rfl rfl 4 (by decide) (hts (.fieldLink RX8 72 "TapeCalculatorModel" "mq" "J") (List.mem_of_getElem? (i := 1) rfl)) (fun _ h9 => h9) rfl dX8_left_12 ?_
          refine lv_bipush (v := 34) hx hb dX8_left_15 (by decide) ?_
          refine lv_lshr hx hb dX8_left_17 rfl ?_
          refine lv_lconst (v := 1) hx hb dX8_left_18 (by decide) ?_
          refine lv_land hx hb dX8_left_19 ?_
          refine lv_goto (tgt := 24) hx hb dX8_left_20 (by decide) ?_
          refine lv_topl (fun x_17 ex_17 => ?_)
          refine lv_lstore (lv' := [(4, .long x_17), (3, .int j), (0, .ref m0), (1, .int n), (2, .int z)]) hx hb dX8_left_24 hl (by decide) rfl (fun ls hl => ?_)
          refine lv_aload_n hx hb dX8_left_26 rfl (lv_at hl 2 rfl) ?_
          refine lv_aload_n hx hb dX8_left_27 rfl (lv_at hl 2 rfl) ?_
          refine va_get (D := D) (ci := 8) (v := .long va) (C := RX8) (T := TX8) (N := 31) hx hb hts iX8_left_X8 hown hK hP 0 rfl rfl 2 (by decide) (hts (.fieldLink RX8 65 "TapeCalculatorModel" "acc" "J") (List.mem_of_getElem? (i := 2) rfl)) (fun _ h9 => h9) rfl dX8_left_28 ?_
          refine lv_iconst (v := 1) hx hb dX8_left_31 (by decide) ?_
          refine lv_lshl hx hb dX8_left_32 rfl ?_
          refine lv_lload hx hb dX8_left_33 (lv_at hl 0 rfl) ?_
          refine lv_lor hx hb dX8_left_35 ?_
          refine lv_ldc2 (v := 137438953471) hx hb hown (hts (.constantLong RX8 90 (137438953471)) (List.mem_of_getElem? (i := 3) rfl)) dX8_left_36 ?_
          refine lv_land hx hb dX8_left_39 ?_
          refine lv_topl (fun x_18 ex_18 => ?_)
          refine va_put (D := D) (ci := 8) (v := .long x_18) (ty := .long) (C := RX8) (T := TX8) (N := 31) hx hb hts iX8_left_X8 tyX8 tyX8_ok nmX8 hown hK hP hD hS 0 rfl rfl 2 (by decide) (hts (.fieldLink RX8 65 "TapeCalculatorModel" "acc" "J") (List.mem_of_getElem? (i := 2) rfl)) (fun _ h9 => h9) rfl (by decide +kernel) rfl rfl (Nat.le_of_ble_eq_true rfl) dX8_left_40 (fun H locs hP hD hS => ?_)
          have hP : va_P D vwCl [(m0, .inr (8, [.ref mH, .int aM, .long x_18, .int mM, .long vq, .int vo, .int pL, .int lI, .int sW, .int dP, .int sT, .long aT, .int cH, .int iW, .ref mI, .ref mJ, .ref mS, .ref mD, .int iH, .int aE, .int mN, .long sZ, .ref mX, .int tS, .int tA, .int tW, .ref mA, .ref mB, .ref mW, .ref mL, .int lS]))] H := hP
          have hD : va_D A [(m0, .inr (8, [.ref mH, .int aM, .long x_18, .int mM, .long vq, .int vo, .int pL, .int lI, .int sW, .int dP, .int sT, .long aT, .int cH, .int iW, .ref mI, .ref mJ, .ref mS, .ref mD, .int iH, .int aE, .int mN, .long sZ, .ref mX, .int tS, .int tA, .int tW, .ref mA, .ref mB, .ref mW, .ref mL, .int lS]))] := hD
          refine lv_aload_n hx hb dX8_left_43 rfl (lv_at hl 2 rfl) ?_
          refine lv_iload_n hx hb dX8_left_44 rfl (lv_at hl 4 rfl) ?_
          refine lv_if_eq (tgt := 61) hx hb dX8_left_45 (by decide) (fun c_45_18 => ?_) (fun c_45_18 => ?_)
          · have t_45_18 := c_45_18
            try simp only [kb_eq0, kb_ne0, lg_cmp_lt, lg_cmp_le, lg_cmp_gt, lg_cmp_ge, lg_cmp_eq] at t_45_18
            try simp only [Int32.lt_iff_toInt_lt, Int32.le_iff_toInt_le, ← Int32.toInt_inj, Int64.lt_iff_toInt_lt, Int64.le_iff_toInt_le, ← Int64.toInt_inj, Int32.toInt_toInt64, Int32.reduceToInt, Int64.reduceToInt] at t_45_18
            refine lv_aload_n hx hb dX8_left_61 rfl (lv_at hl 2 rfl) ?_
            refine va_get (D := D) (ci := 8) (v := .long vq) (C := RX8) (T := TX8) (N := 31) hx hb hts iX8_left_X8 hown hK hP 0 rfl rfl 4 (by decide) (hts (.fieldLink RX8 72 "TapeCalculatorModel" "mq" "J") (List.mem_of_getElem? (i := 1) rfl)) (fun _ h9 => h9) rfl dX8_left_62 ?_
            refine va_put (D := D) (ci := 8) (v := .long vq) (ty := .long) (C := RX8) (T := TX8) (N := 31) hx hb hts iX8_left_X8 tyX8 tyX8_ok nmX8 hown hK hP hD hS 0 rfl rfl 4 (by decide) (hts (.fieldLink RX8 72 "TapeCalculatorModel" "mq" "J") (List.mem_of_getElem? (i := 1) rfl)) (fun _ h9 => h9) rfl (by decide +kernel) rfl rfl (Nat.le_of_ble_eq_true rfl) dX8_left_65 (fun H locs hP hD hS => ?_)
            have hP : va_P D vwCl [(m0, .inr (8, [.ref mH, .int aM, .long x_18, .int mM, .long vq, .int vo, .int pL, .int lI, .int sW, .int dP, .int sT, .long aT, .int cH, .int iW, .ref mI, .ref mJ, .ref mS, .ref mD, .int iH, .int aE, .int mN, .long sZ, .ref mX, .int tS, .int tA, .int tW, .ref mA, .ref mB, .ref mW, .ref mL, .int lS]))] H := hP
            have hD : va_D A [(m0, .inr (8, [.ref mH, .int aM, .long x_18, .int mM, .long vq, .int vo, .int pL, .int lI, .int sW, .int dP, .int sT, .long aT, .int cH, .int iW, .ref mI, .ref mJ, .ref mS, .ref mD, .int iH, .int aE, .int mN, .long sZ, .ref mX, .int tS, .int tA, .int tW, .ref mA, .ref mB, .ref mW, .ref mL, .int lS]))] := hD
            refine lv_aload_n hx hb dX8_left_68 rfl (lv_at hl 2 rfl) ?_
            refine lv_aload_n hx hb dX8_left_69 rfl (lv_at hl 2 rfl) ?_
            refine va_get (D := D) (ci := 8) (v := .int vo) (C := RX8) (T := TX8) (N := 31) hx hb hts iX8_left_X8 hown hK hP 0 rfl rfl 5 (by decide) (hts (.fieldLink RX8 75 "TapeCalculatorModel" "over" "Z") (List.mem_of_getElem? (i := 5) rfl)) (fun _ h9 => h9) rfl dX8_left_70 ?_
            refine lv_if_ne (tgt := 89) hx hb dX8_left_73 (by decide) (fun c_73_19 => ?_) (fun c_73_19 => ?_)
            · have t_73_19 := c_73_19
              try simp only [kb_eq0, kb_ne0, lg_cmp_lt, lg_cmp_le, lg_cmp_gt, lg_cmp_ge, lg_cmp_eq] at t_73_19
              try simp only [Int32.lt_iff_toInt_lt, Int32.le_iff_toInt_le, ← Int32.toInt_inj, Int64.lt_iff_toInt_lt, Int64.le_iff_toInt_le, ← Int64.toInt_inj, Int32.toInt_toInt64, Int32.reduceToInt, Int64.reduceToInt] at t_73_19
              refine lv_iconst (v := 1) hx hb dX8_left_89 (by decide) ?_
              refine lv_goto (tgt := 94) hx hb dX8_left_90 (by decide) ?_
              refine va_put (D := D) (ci := 8) (v := .int 1) (ty := .boolean) (C := RX8) (T := TX8) (N := 31) hx hb hts iX8_left_X8 tyX8 tyX8_ok nmX8 hown hK hP hD hS 0 rfl rfl 5 (by decide) (hts (.fieldLink RX8 75 "TapeCalculatorModel" "over" "Z") (List.mem_of_getElem? (i := 5) rfl)) (fun _ h9 => h9) rfl (by decide +kernel) rfl rfl (Nat.le_of_ble_eq_true rfl) dX8_left_94 (fun H locs hP hD hS => ?_)
              have hP : va_P D vwCl [(m0, .inr (8, [.ref mH, .int aM, .long x_18, .int mM, .long vq, .int 1, .int pL, .int lI, .int sW, .int dP, .int sT, .long aT, .int cH, .int iW, .ref mI, .ref mJ, .ref mS, .ref mD, .int iH, .int aE, .int mN, .long sZ, .ref mX, .int tS, .int tA, .int tW, .ref mA, .ref mB, .ref mW, .ref mL, .int lS]))] H := hP
              have hD : va_D A [(m0, .inr (8, [.ref mH, .int aM, .long x_18, .int mM, .long vq, .int 1, .int pL, .int lI, .int sW, .int dP, .int sT, .long aT, .int cH, .int iW, .ref mI, .ref mJ, .ref mS, .ref mD, .int iH, .int aE, .int mN, .long sZ, .ref mX, .int tS, .int tA, .int tW, .ref mA, .ref mB, .ref mW, .ref mL, .int lS]))] := hD
              obtain ⟨x_21, ex_21⟩ : ∃ y : Int32, y = j + 1 := ⟨_, rfl⟩
              refine lv_iinc (v := x_21) (lv' := [(3, .int x_21), (4, .long x_17), (0, .ref m0), (1, .int n), (2, .int z)]) hx hb dX8_left_97 hl (k := 1) rfl (by rw [ex_21]; rfl) (by decide) rfl (fun ls hl => ?_)
              refine lv_goto (tgt := 2) hx hb dX8_left_100 (by decide) ?_
              have hd := k_inc (i := j) (n := n) (by omega)
              rw [← ex_21] at hd
              exact ih x_21 x_18 vq 1 (by omega) (by first | with_reducible assumption | ((try simp only [jT_, jP_, jD_, jC_, jB_, jW_, Int32.reduceToInt, Int64.reduceToInt, true_or, or_true, true_and, and_true]) <;> omega)) _ _ (hP.sub [0] rfl) (hD.sub [0] (by decide) rfl) hS ls (lv_sub hl [0, 2, 3, 4] rfl)
            · have t_73_19 := c_73_19
              try simp only [kb_eq0, kb_ne0, lg_cmp_lt, lg_cmp_le, lg_cmp_gt, lg_cmp_ge, lg_cmp_eq] at t_73_19
              try simp only [Int32.lt_iff_toInt_lt, Int32.le_iff_toInt_le, ← Int32.toInt_inj, Int64.lt_iff_toInt_lt, Int64.le_iff_toInt_le, ← Int64.toInt_inj, Int32.toInt_toInt64, Int32.reduceToInt, Int64.reduceToInt] at t_73_19
              refine lv_aload_n hx hb dX8_left_76 rfl (lv_at hl 2 rfl) ?_
              refine va_get (D := D) (ci := 8) (v := .long x_18) (C := RX8) (T := TX8) (N := 31) hx hb hts iX8_left_X8 hown hK hP 0 rfl rfl 2 (by decide) (hts (.fieldLink RX8 65 "TapeCalculatorModel" "acc" "J") (List.mem_of_getElem? (i := 2) rfl)) (fun _ h9 => h9) rfl dX8_left_77 ?_
              refine lv_ldc2 (v := 34359738368) hx hb hown (hts (.constantLong RX8 140 (34359738368)) (List.mem_of_getElem? (i := 6) rfl)) dX8_left_80 ?_
              refine lv_land hx hb dX8_left_83 ?_
              refine lv_lconst (v := 0) hx hb dX8_left_84 (by decide) ?_
              refine W.lcmp hx hb dX8_left_85 ?_
              refine lv_if_eq (tgt := 93) hx hb dX8_left_86 (by decide) (fun c_86_21 => ?_) (fun c_86_21 => ?_)
              · have t_86_21 := c_86_21
                try simp only [kb_eq0, kb_ne0, lg_cmp_lt, lg_cmp_le, lg_cmp_gt, lg_cmp_ge, lg_cmp_eq] at t_86_21
                try simp only [Int32.lt_iff_toInt_lt, Int32.le_iff_toInt_le, ← Int32.toInt_inj, Int64.lt_iff_toInt_lt, Int64.le_iff_toInt_le, ← Int64.toInt_inj, Int32.toInt_toInt64, Int32.reduceToInt, Int64.reduceToInt] at t_86_21
                refine lv_iconst (v := 0) hx hb dX8_left_93 (by decide) ?_
                refine va_put (D := D) (ci := 8) (v := .int 0) (ty := .boolean) (C := RX8) (T := TX8) (N := 31) hx hb hts iX8_left_X8 tyX8 tyX8_ok nmX8 hown hK hP hD hS 0 rfl rfl 5 (by decide) (hts (.fieldLink RX8 75 "TapeCalculatorModel" "over" "Z") (List.mem_of_getElem? (i := 5) rfl)) (fun _ h9 => h9) rfl (by decide +kernel) rfl rfl (Nat.le_of_ble_eq_true rfl) dX8_left_94 (fun H locs hP hD hS => ?_)
                have hP : va_P D vwCl [(m0, .inr (8, [.ref mH, .int aM, .long x_18, .int mM, .long vq, .int 0, .int pL, .int lI, .int sW, .int dP, .int sT, .long aT, .int cH, .int iW, .ref mI, .ref mJ, .ref mS, .ref mD, .int iH, .int aE, .int mN, .long sZ, .ref mX, .int tS, .int tA, .int tW, .ref mA, .ref mB, .ref mW, .ref mL, .int lS]))] H := hP
                have hD : va_D A [(m0, .inr (8, [.ref mH, .int aM, .long x_18, .int mM, .long vq, .int 0, .int pL, .int lI, .int sW, .int dP, .int sT, .long aT, .int cH, .int iW, .ref mI, .ref mJ, .ref mS, .ref mD, .int iH, .int aE, .int mN, .long sZ, .ref mX, .int tS, .int tA, .int tW, .ref mA, .ref mB, .ref mW, .ref mL, .int lS]))] := hD
                obtain ⟨x_23, ex_23⟩ : ∃ y : Int32, y = j + 1 := ⟨_, rfl⟩
                refine lv_iinc (v := x_23) (lv' := [(3, .int x_23), (4, .long x_17), (0, .ref m0), (1, .int n), (2, .int z)]) hx hb dX8_left_97 hl (k := 1) rfl (by rw [ex_23]; rfl) (by decide) rfl (fun ls hl => ?_)
                refine lv_goto (tgt := 2) hx hb dX8_left_100 (by decide) ?_
                have hd := k_inc (i := j) (n := n) (by omega)
                rw [← ex_23] at hd
                exact ih x_23 x_18 vq 0 (by omega) (by first | with_reducible assumption | ((try simp only [jT_, jP_, jD_, jC_, jB_, jW_, Int32.reduceToInt, Int64.reduceToInt, true_or, or_true, true_and, and_true]) <;> omega)) _ _ (hP.sub [0] rfl) (hD.sub [0] (by decide) rfl) hS ls (lv_sub hl [0, 2, 3, 4] rfl)
              · have t_86_21 := c_86_21
                try simp only [kb_eq0, kb_ne0, lg_cmp_lt, lg_cmp_le, lg_cmp_gt, lg_cmp_ge, lg_cmp_eq] at t_86_21
                try simp only [Int32.lt_iff_toInt_lt, Int32.le_iff_toInt_le, ← Int32.toInt_inj, Int64.lt_iff_toInt_lt, Int64.le_iff_toInt_le, ← Int64.toInt_inj, Int32.toInt_toInt64, Int32.reduceToInt, Int64.reduceToInt] at t_86_21
                refine lv_iconst (v := 1) hx hb dX8_left_89 (by decide) ?_
                refine lv_goto (tgt := 94) hx hb dX8_left_90 (by decide) ?_
                refine va_put (D := D) (ci := 8) (v := .int 1) (ty := .boolean) (C := RX8) (T := TX8) (N := 31) hx hb hts iX8_left_X8 tyX8 tyX8_ok nmX8 hown hK hP hD hS 0 rfl rfl 5 (by decide) (hts (.fieldLink RX8 75 "TapeCalculatorModel" "over" "Z") (List.mem_of_getElem? (i := 5) rfl)) (fun _ h9 => h9) rfl (by decide +kernel) rfl rfl (Nat.le_of_ble_eq_true rfl) dX8_left_94 (fun H locs hP hD hS => ?_)
                have hP : va_P D vwCl [(m0, .inr (8, [.ref mH, .int aM, .long x_18, .int mM, .long vq, .int 1, .int pL, .int lI, .int sW, .int dP, .int sT, .long aT, .int cH, .int iW, .ref mI, .ref mJ, .ref mS, .ref mD, .int iH, .int aE, .int mN, .long sZ, .ref mX, .int tS, .int tA, .int tW, .ref mA, .ref mB, .ref mW, .ref mL, .int lS]))] H := hP
                have hD : va_D A [(m0, .inr (8, [.ref mH, .int aM, .long x_18, .int mM, .long vq, .int 1, .int pL, .int lI, .int sW, .int dP, .int sT, .long aT, .int cH, .int iW, .ref mI, .ref mJ, .ref mS, .ref mD, .int iH, .int aE, .int mN, .long sZ, .ref mX, .int tS, .int tA, .int tW, .ref mA, .ref mB, .ref mW, .ref mL, .int lS]))] := hD
                obtain ⟨x_24, ex_24⟩ : ∃ y : Int32, y = j + 1 := ⟨_, rfl⟩
                refine lv_iinc (v := x_24) (lv' := [(3, .int x_24), (4, .long x_17), (0, .ref m0), (1, .int n), (2, .int z)]) hx hb dX8_left_97 hl (k := 1) rfl (by rw [ex_24]; rfl) (by decide) rfl (fun ls hl => ?_)
                refine lv_goto (tgt := 2) hx hb dX8_left_100 (by decide) ?_
                have hd := k_inc (i := j) (n := n) (by omega)
                rw [← ex_24] at hd
                exact ih x_24 x_18 vq 1 (by omega) (by first | with_reducible assumption | ((try simp only [jT_, jP_, jD_, jC_, jB_, jW_, Int32.reduceToInt, Int64.reduceToInt, true_or, or_true, true_and, and_true]) <;> omega)) _ _ (hP.sub [0] rfl) (hD.sub [0] (by decide) rfl) hS ls (lv_sub hl [0, 2, 3, 4] rfl)
          · have t_45_18 := c_45_18
            try simp only [kb_eq0, kb_ne0, lg_cmp_lt, lg_cmp_le, lg_cmp_gt, lg_cmp_ge, lg_cmp_eq] at t_45_18
            try simp only [Int32.lt_iff_toInt_lt, Int32.le_iff_toInt_le, ← Int32.toInt_inj, Int64.lt_iff_toInt_lt, Int64.le_iff_toInt_le, ← Int64.toInt_inj, Int32.toInt_toInt64, Int32.reduceToInt, Int64.reduceToInt] at t_45_18
            refine lv_aload_n hx hb dX8_left_48 rfl (lv_at hl 2 rfl) ?_
            refine va_get (D := D) (ci := 8) (v := .long vq) (C := RX8) (T := TX8) (N := 31) hx hb hts iX8_left_X8 hown hK hP 0 rfl rfl 4 (by decide) (hts (.fieldLink RX8 72 "TapeCalculatorModel" "mq" "J") (List.mem_of_getElem? (i := 1) rfl)) (fun _ h9 => h9) rfl dX8_left_49 ?_
            refine lv_iconst (v := 1) hx hb dX8_left_52 (by decide) ?_
            refine lv_lshl hx hb dX8_left_53 rfl ?_
            refine lv_ldc2 (v := 34359738367) hx hb hown (hts (.constantLong RX8 92 (34359738367)) (List.mem_of_getElem? (i := 4) rfl)) dX8_left_54 ?_
            refine lv_land hx hb dX8_left_57 ?_
            refine lv_goto (tgt := 65) hx hb dX8_left_58 (by decide) ?_
            refine lv_topl (fun x_25 ex_25 => ?_)
            refine va_put (D := D) (ci := 8) (v := .long x_25) (ty := .long) (C := RX8) (T := TX8) (N := 31) hx hb hts iX8_left_X8 tyX8 tyX8_ok nmX8 hown hK hP hD hS 0 rfl rfl 4 (by decide) (hts (.fieldLink RX8 72 "TapeCalculatorModel" "mq" "J") (List.mem_of_getElem? (i := 1) rfl)) (fun _ h9 => h9) rfl (by decide +kernel) rfl rfl (Nat.le_of_ble_eq_true rfl) dX8_left_65 (fun H locs hP hD hS => ?_)
            have hP : va_P D vwCl [(m0, .inr (8, [.ref mH, .int aM, .long x_18, .int mM, .long x_25, .int vo, .int pL, .int lI, .int sW, .int dP, .int sT, .long aT, .int cH, .int iW, .ref mI, .ref mJ, .ref mS, .ref mD, .int iH, .int aE, .int mN, .long sZ, .ref mX, .int tS, .int tA, .int tW, .ref mA, .ref mB, .ref mW, .ref mL, .int lS]))] H := hP
            have hD : va_D A [(m0, .inr (8, [.ref mH, .int aM, .long x_18, .int mM, .long x_25, .int vo, .int pL, .int lI, .int sW, .int dP, .int sT, .long aT, .int cH, .int iW, .ref mI, .ref mJ, .ref mS, .ref mD, .int iH, .int aE, .int mN, .long sZ, .ref mX, .int tS, .int tA, .int tW, .ref mA, .ref mB, .ref mW, .ref mL, .int lS]))] := hD
            refine lv_aload_n hx hb dX8_left_68 rfl (lv_at hl 2 rfl) ?_
            refine lv_aload_n hx hb dX8_left_69 rfl (lv_at hl 2 rfl) ?_
            refine va_get (D := D) (ci := 8) (v := .int vo) (C := RX8) (T := TX8) (N := 31) hx hb hts iX8_left_X8 hown hK hP 0 rfl rfl 5 (by decide) (hts (.fieldLink RX8 75 "TapeCalculatorModel" "over" "Z") (List.mem_of_getElem? (i := 5) rfl)) (fun _ h9 => h9) rfl dX8_left_70 ?_
            refine lv_if_ne (tgt := 89) hx hb dX8_left_73 (by decide) (fun c_73_25 => ?_) (fun c_73_25 => ?_)
            · have t_73_25 := c_73_25
              try simp only [kb_eq0, kb_ne0, lg_cmp_lt, lg_cmp_le, lg_cmp_gt, lg_cmp_ge, lg_cmp_eq] at t_73_25
              try simp only [Int32.lt_iff_toInt_lt, Int32.le_iff_toInt_le, ← Int32.toInt_inj, Int64.lt_iff_toInt_lt, Int64.le_iff_toInt_le, ← Int64.toInt_inj, Int32.toInt_toInt64, Int32.reduceToInt, Int64.reduceToInt] at t_73_25
              refine lv_iconst (v := 1) hx hb dX8_left_89 (by decide) ?_
              refine lv_goto (tgt := 94) hx hb dX8_left_90 (by decide) ?_
              refine va_put (D := D) (ci := 8) (v := .int 1) (ty := .boolean) (C := RX8) (T := TX8) (N := 31) hx hb hts iX8_left_X8 tyX8 tyX8_ok nmX8 hown hK hP hD hS 0 rfl rfl 5 (by decide) (hts (.fieldLink RX8 75 "TapeCalculatorModel" "over" "Z") (List.mem_of_getElem? (i := 5) rfl)) (fun _ h9 => h9) rfl (by decide +kernel) rfl rfl (Nat.le_of_ble_eq_true rfl) dX8_left_94 (fun H locs hP hD hS => ?_)
              have hP : va_P D vwCl [(m0, .inr (8, [.ref mH, .int aM, .long x_18, .int mM, .long x_25, .int 1, .int pL, .int lI, .int sW, .int dP, .int sT, .long aT, .int cH, .int iW, .ref mI, .ref mJ, .ref mS, .ref mD, .int iH, .int aE, .int mN, .long sZ, .ref mX, .int tS, .int tA, .int tW, .ref mA, .ref mB, .ref mW, .ref mL, .int lS]))] H := hP
              have hD : va_D A [(m0, .inr (8, [.ref mH, .int aM, .long x_18, .int mM, .long x_25, .int 1, .int pL, .int lI, .int sW, .int dP, .int sT, .long aT, .int cH, .int iW, .ref mI, .ref mJ, .ref mS, .ref mD, .int iH, .int aE, .int mN, .long sZ, .ref mX, .int tS, .int tA, .int tW, .ref mA, .ref mB, .ref mW, .ref mL, .int lS]))] := hD
              obtain ⟨x_27, ex_27⟩ : ∃ y : Int32, y = j + 1 := ⟨_, rfl⟩
              refine lv_iinc (v := x_27) (lv' := [(3, .int x_27), (4, .long x_17), (0, .ref m0), (1, .int n), (2, .int z)]) hx hb dX8_left_97 hl (k := 1) rfl (by rw [ex_27]; rfl) (by decide) rfl (fun ls hl => ?_)
              refine lv_goto (tgt := 2) hx hb dX8_left_100 (by decide) ?_
              have hd := k_inc (i := j) (n := n) (by omega)
              rw [← ex_27] at hd
              exact ih x_27 x_18 x_25 1 (by omega) (by first | with_reducible assumption | ((try simp only [jT_, jP_, jD_, jC_, jB_, jW_, Int32.reduceToInt, Int64.reduceToInt, true_or, or_true, true_and, and_true]) <;> omega)) _ _ (hP.sub [0] rfl) (hD.sub [0] (by decide) rfl) hS ls (lv_sub hl [0, 2, 3, 4] rfl)
            · have t_73_25 := c_73_25
              try simp only [kb_eq0, kb_ne0, lg_cmp_lt, lg_cmp_le, lg_cmp_gt, lg_cmp_ge, lg_cmp_eq] at t_73_25
              try simp only [Int32.lt_iff_toInt_lt, Int32.le_iff_toInt_le, ← Int32.toInt_inj, Int64.lt_iff_toInt_lt, Int64.le_iff_toInt_le, ← Int64.toInt_inj, Int32.toInt_toInt64, Int32.reduceToInt, Int64.reduceToInt] at t_73_25
              refine lv_aload_n hx hb dX8_left_76 rfl (lv_at hl 2 rfl) ?_
              refine va_get (D := D) (ci := 8) (v := .long x_18) (C := RX8) (T := TX8) (N := 31) hx hb hts iX8_left_X8 hown hK hP 0 rfl rfl 2 (by decide) (hts (.fieldLink RX8 65 "TapeCalculatorModel" "acc" "J") (List.mem_of_getElem? (i := 2) rfl)) (fun _ h9 => h9) rfl dX8_left_77 ?_
              refine lv_ldc2 (v := 34359738368) hx hb hown (hts (.constantLong RX8 140 (34359738368)) (List.mem_of_getElem? (i := 6) rfl)) dX8_left_80 ?_
              refine lv_land hx hb dX8_left_83 ?_
              refine lv_lconst (v := 0) hx hb dX8_left_84 (by decide) ?_
              refine W.lcmp hx hb dX8_left_85 ?_
              refine lv_if_eq (tgt := 93) hx hb dX8_left_86 (by decide) (fun c_86_27 => ?_) (fun c_86_27 => ?_)
              · have t_86_27 := c_86_27
                try simp only [kb_eq0, kb_ne0, lg_cmp_lt, lg_cmp_le, lg_cmp_gt, lg_cmp_ge, lg_cmp_eq] at t_86_27
                try simp only [Int32.lt_iff_toInt_lt, Int32.le_iff_toInt_le, ← Int32.toInt_inj, Int64.lt_iff_toInt_lt, Int64.le_iff_toInt_le, ← Int64.toInt_inj, Int32.toInt_toInt64, Int32.reduceToInt, Int64.reduceToInt] at t_86_27
                refine lv_iconst (v := 0) hx hb dX8_left_93 (by decide) ?_
                refine va_put (D := D) (ci := 8) (v := .int 0) (ty := .boolean) (C := RX8) (T := TX8) (N := 31) hx hb hts iX8_left_X8 tyX8 tyX8_ok nmX8 hown hK hP hD hS 0 rfl rfl 5 (by decide) (hts (.fieldLink RX8 75 "TapeCalculatorModel" "over" "Z") (List.mem_of_getElem? (i := 5) rfl)) (fun _ h9 => h9) rfl (by decide +kernel) rfl rfl (Nat.le_of_ble_eq_true rfl) dX8_left_94 (fun H locs hP hD hS => ?_)
                have hP : va_P D vwCl [(m0, .inr (8, [.ref mH, .int aM, .long x_18, .int mM, .long x_25, .int 0, .int pL, .int lI, .int sW, .int dP, .int sT, .long aT, .int cH, .int iW, .ref mI, .ref mJ, .ref mS, .ref mD, .int iH, .int aE, .int mN, .long sZ, .ref mX, .int tS, .int tA, .int tW, .ref mA, .ref mB, .ref mW, .ref mL, .int lS]))] H := hP
                have hD : va_D A [(m0, .inr (8, [.ref mH, .int aM, .long x_18, .int mM, .long x_25, .int 0, .int pL, .int lI, .int sW, .int dP, .int sT, .long aT, .int cH, .int iW, .ref mI, .ref mJ, .ref mS, .ref mD, .int iH, .int aE, .int mN, .long sZ, .ref mX, .int tS, .int tA, .int tW, .ref mA, .ref mB, .ref mW, .ref mL, .int lS]))] := hD
                obtain ⟨x_29, ex_29⟩ : ∃ y : Int32, y = j + 1 := ⟨_, rfl⟩
                refine lv_iinc (v := x_29) (lv' := [(3, .int x_29), (4, .long x_17), (0, .ref m0), (1, .int n), (2, .int z)]) hx hb dX8_left_97 hl (k := 1) rfl (by rw [ex_29]; rfl) (by decide) rfl (fun ls hl => ?_)
                refine lv_goto (tgt := 2) hx hb dX8_left_100 (by decide) ?_
                have hd := k_inc (i := j) (n := n) (by omega)
                rw [← ex_29] at hd
                exact ih x_29 x_18 x_25 0 (by omega) (by first | with_reducible assumption | ((try simp only [jT_, jP_, jD_, jC_, jB_, jW_, Int32.reduceToInt, Int64.reduceToInt, true_or, or_true, true_and, and_true]) <;> omega)) _ _ (hP.sub [0] rfl) (hD.sub [0] (by decide) rfl) hS ls (lv_sub hl [0, 2, 3, 4] rfl)
              · have t_86_27 := c_86_27
                try simp only [kb_eq0, kb_ne0, lg_cmp_lt, lg_cmp_le, lg_cmp_gt, lg_cmp_ge, lg_cmp_eq] at t_86_27
                try simp only [Int32.lt_iff_toInt_lt, Int32.le_iff_toInt_le, ← Int32.toInt_inj, Int64.lt_iff_toInt_lt, Int64.le_iff_toInt_le, ← Int64.toInt_inj, Int32.toInt_toInt64, Int32.reduceToInt, Int64.reduceToInt] at t_86_27
                refine lv_iconst (v := 1) hx hb dX8_left_89 (by decide) ?_
                refine lv_goto (tgt := 94) hx hb dX8_left_90 (by decide) ?_
                refine va_put (D := D) (ci := 8) (v := .int 1) (ty := .boolean) (C := RX8) (T := TX8) (N := 31) hx hb hts iX8_left_X8 tyX8 tyX8_ok nmX8 hown hK hP hD hS 0 rfl rfl 5 (by decide) (hts (.fieldLink RX8 75 "TapeCalculatorModel" "over" "Z") (List.mem_of_getElem? (i := 5) rfl)) (fun _ h9 => h9) rfl (by decide +kernel) rfl rfl (Nat.le_of_ble_eq_true rfl) dX8_left_94 (fun H locs hP hD hS => ?_)
                have hP : va_P D vwCl [(m0, .inr (8, [.ref mH, .int aM, .long x_18, .int mM, .long x_25, .int 1, .int pL, .int lI, .int sW, .int dP, .int sT, .long aT, .int cH, .int iW, .ref mI, .ref mJ, .ref mS, .ref mD, .int iH, .int aE, .int mN, .long sZ, .ref mX, .int tS, .int tA, .int tW, .ref mA, .ref mB, .ref mW, .ref mL, .int lS]))] H := hP
                have hD : va_D A [(m0, .inr (8, [.ref mH, .int aM, .long x_18, .int mM, .long x_25, .int 1, .int pL, .int lI, .int sW, .int dP, .int sT, .long aT, .int cH, .int iW, .ref mI, .ref mJ, .ref mS, .ref mD, .int iH, .int aE, .int mN, .long sZ, .ref mX, .int tS, .int tA, .int tW, .ref mA, .ref mB, .ref mW, .ref mL, .int lS]))] := hD
                obtain ⟨x_30, ex_30⟩ : ∃ y : Int32, y = j + 1 := ⟨_, rfl⟩
                refine lv_iinc (v := x_30) (lv' := [(3, .int x_30), (4, .long x_17), (0, .ref m0), (1, .int n), (2, .int z)]) hx hb dX8_left_97 hl (k := 1) rfl (by rw [ex_30]; rfl) (by decide) rfl (fun ls hl => ?_)
                refine lv_goto (tgt := 2) hx hb dX8_left_100 (by decide) ?_
                have hd := k_inc (i := j) (n := n) (by omega)
                rw [← ex_30] at hd
                exact ih x_30 x_18 x_25 1 (by omega) (by first | with_reducible assumption | ((try simp only [jT_, jP_, jD_, jC_, jB_, jW_, Int32.reduceToInt, Int64.reduceToInt, true_or, or_true, true_and, and_true]) <;> omega)) _ _ (hP.sub [0] rfl) (hD.sub [0] (by decide) rfl) hS ls (lv_sub hl [0, 2, 3, 4] rfl)
  exact J2 _ 0 aC mQ oV (Nat.lt_succ_self _) (by first | with_reducible assumption | ((try simp only [jT_, jP_, jD_, jC_, jB_, jW_, Int32.reduceToInt, Int64.reduceToInt, true_or, or_true, true_and, and_true]) <;> omega)) _ _ (hP.sub [0] rfl) (hD.sub [0] (by decide) rfl) hS ls (lv_sub hl [0, 1, 2, 3] rfl)
set_option maxRecDepth 100000 in
theorem iX8_right_X8 : ∀ w ∈ wsX80, w ∈ wsX8_right := fun w h => (goodIn_r (big := wsX8_right) wsX80 [5, 6, 7, 8, 9, 10, 11, 12, 13, 14, 15, 16, 17, 18, 19, 20, 21, 22, 23, 24, 25, 26, 27, 28, 29, 30, 31, 32, 33, 34, 35] rfl (by decide +kernel) w h).1
set_option maxRecDepth 100000 in
set_option maxHeartbeats 4000000 in
theorem q_right (l : Launch) (D : va_G) (cI cL cB cZ cT : ClassId) (sz : Nat) (m0 mH mI mJ mS mD mX mA mB mW mL : Nat) (aM : Int32) (aC : Int64) (mM : Int32) (mQ : Int64) (oV pL lI sW dP sT : Int32) (aT : Int64) (cH iW iH aE mN : Int32) (sZ : Int64) (tS tA tW lS : Int32) (n z : Int32) (haM : jB_ aM) (hmM : jB_ mM) : kM (S := (Int64 × Int32 × Int64)) l yX8_right wsX8_right ({ frames := 0, cells := 0, slots := 0, locals := 0 }) D (kT cI cL cB cZ cT) [.ref m0, .int n, .int z] [(m0, .inr (8, [.ref mH, .int aM, .long aC, .int mM, .long mQ, .int oV, .int pL, .int lI, .int sW, .int dP, .int sT, .long aT, .int cH, .int iW, .ref mI, .ref mJ, .ref mS, .ref mD, .int iH, .int aE, .int mN, .long sZ, .ref mX, .int tS, .int tA, .int tW, .ref mA, .ref mB, .ref mW, .ref mL, .int lS]))] sz eV (fun r u => jB_ (u.2.1)) (fun u => [(m0, .inr (8, [.ref mH, .int aM, .long u.1, .int u.2.1, .long u.2.2, .int oV, .int pL, .int lI, .int sW, .int dP, .int sT, .long aT, .int cH, .int iW, .ref mI, .ref mJ, .ref mS, .ref mD, .int iH, .int aE, .int mN, .long sZ, .ref mX, .int tS, .int tA, .int tW, .ref mA, .ref mB, .ref mW, .ref mL, .int lS]))]) 0 0 := by
  refine kStart (cc := cX8_right) (maxL := 6) (ret := none) (own := RX8) (by decide) rfl rfl (Nat.le_of_ble_eq_true rfl) ?_
  intro p e s m args below meth c A ls hx hb hr hml hown hts hlocks hnm hsz hA hG hP hD hS hl
  have hK := hG.1
  have hl : lv_has ls 6 [(0, .ref m0), (1, .int n), (2, .int z)] := hl
  refine lv_iconst (v := 0) hx hb dX8_right_0 (by decide) ?_
  refine lv_istore_n (lv' := [(3, .int 0), (0, .ref m0), (1, .int n), (2, .int z)]) hx hb dX8_right_1 rfl hl (by decide) rfl (fun ls hl => ?_)
  have J2 : ∀ (k : Nat) (j : Int32) (va : Int64) (vq : Int64), (n.toInt - j.toInt).toNat < k → ∀ (H : Heap) (locs : List Loc), va_P D vwCl [(m0, .inr (8, [.ref mH, .int aM, .long va, .int mM, .long vq, .int oV, .int pL, .int lI, .int sW, .int dP, .int sT, .long aT, .int cH, .int iW, .ref mI, .ref mJ, .ref mS, .ref mD, .int iH, .int aE, .int mN, .long sZ, .ref mX, .int tS, .int tA, .int tW, .ref mA, .ref mB, .ref mW, .ref mL, .int lS]))] H → va_D A [(m0, .inr (8, [.ref mH, .int aM, .long va, .int mM, .long vq, .int oV, .int pL, .int lI, .int sW, .int dP, .int sT, .long aT, .int cH, .int iW, .ref mI, .ref mJ, .ref mS, .ref mD, .int iH, .int aE, .int mN, .long sZ, .ref mX, .int tS, .int tA, .int tW, .ref mA, .ref mB, .ref mW, .ref mL, .int lS]))] → va_S A s.heap H locs → ∀ ls : Array Slot, lv_has ls 6 [(3, .int j), (0, .ref m0), (1, .int n), (2, .int z)] → W p l e ({ frames := 0, cells := 0, slots := 0, locals := 0 }) s m args below meth c H locs 0 0 (MQ below (kQ (S := (Int64 × Int32 × Int64)) eV (fun r u => jB_ (u.2.1)) D (fun u => [(m0, .inr (8, [.ref mH, .int aM, .long u.1, .int u.2.1, .long u.2.2, .int oV, .int pL, .int lI, .int sW, .int dP, .int sT, .long aT, .int cH, .int iW, .ref mI, .ref mJ, .ref mS, .ref mD, .int iH, .int aE, .int mN, .long sZ, .ref mX, .int tS, .int tA, .int tW, .ref mA, .ref mB, .ref mW, .ref mL, .int lS]))]) A) args s 0 0 A) (F0 m 2 ls []) := by
    intro k
    induction k with
    | zero =>
      intro j va vq hm
      exact absurd hm (Nat.not_lt_zero _)
    | succ k ih =>
      intro j va vq hm  H locs hP hD hS ls hl
      refine lv_iload_n hx hb dX8_right_2 rfl (lv_at hl 0 rfl) ?_
      refine lv_iload_n hx hb dX8_right_3 rfl (lv_at hl 2 rfl) ?_
      refine lv_icmp_ge (tgt := 58) hx hb dX8_right_4 (by decide) (fun c_4_0 => ?_) (fun c_4_0 => ?_)
      · have t_4_0 := c_4_0
        try simp only [kb_eq0, kb_ne0, lg_cmp_lt, lg_cmp_le, lg_cmp_gt, lg_cmp_ge, lg_cmp_eq] at t_4_0
        try simp only [Int32.lt_iff_toInt_lt, Int32.le_iff_toInt_le, ← Int32.toInt_inj, Int64.lt_iff_toInt_lt, Int64.le_iff_toInt_le, ← Int64.toInt_inj, Int32.toInt_toInt64, Int32.reduceToInt, Int64.reduceToInt] at t_4_0
        refine lv_aload_n hx hb dX8_right_58 rfl (lv_at hl 1 rfl) ?_
        refine lv_iload_n hx hb dX8_right_59 rfl (lv_at hl 3 rfl) ?_
        refine lv_if_eq (tgt := 70) hx hb dX8_right_60 (by decide) (fun c_60_1 => ?_) (fun c_60_1 => ?_)
        · have t_60_1 := c_60_1
          try simp only [kb_eq0, kb_ne0, lg_cmp_lt, lg_cmp_le, lg_cmp_gt, lg_cmp_ge, lg_cmp_eq] at t_60_1
          try simp only [Int32.lt_iff_toInt_lt, Int32.le_iff_toInt_le, ← Int32.toInt_inj, Int64.lt_iff_toInt_lt, Int64.le_iff_toInt_le, ← Int64.toInt_inj, Int32.toInt_toInt64, Int32.reduceToInt, Int64.reduceToInt] at t_60_1
          refine lv_aload_n hx hb dX8_right_70 rfl (lv_at hl 1 rfl) ?_
          refine va_get (D := D) (ci := 8) (v := .int mM) (C := RX8) (T := TX8) (N := 31) hx hb hts iX8_right_X8 hown hK hP 0 rfl rfl 3 (by decide) (hts (.fieldLink RX8 69 "TapeCalculatorModel" "mqMinus" "Z") (List.mem_of_getElem? (i := 4) rfl)) (fun _ h9 => h9) rfl dX8_right_71 ?_
          refine va_put (D := D) (ci := 8) (v := .int mM) (ty := .boolean) (C := RX8) (T := TX8) (N := 31) hx hb hts iX8_right_X8 tyX8 tyX8_ok nmX8 hown hK hP hD hS 0 rfl rfl 3 (by decide) (hts (.fieldLink RX8 69 "TapeCalculatorModel" "mqMinus" "Z") (List.mem_of_getElem? (i := 4) rfl)) (fun _ h9 => h9) rfl (by decide +kernel) (kz_n (k_b (by first | assumption | omega))) (kz_f (k_b (by first | assumption | omega))) (Nat.le_of_ble_eq_true rfl) dX8_right_74 (fun H locs hP hD hS => ?_)
          have hP : va_P D vwCl [(m0, .inr (8, [.ref mH, .int aM, .long va, .int mM, .long vq, .int oV, .int pL, .int lI, .int sW, .int dP, .int sT, .long aT, .int cH, .int iW, .ref mI, .ref mJ, .ref mS, .ref mD, .int iH, .int aE, .int mN, .long sZ, .ref mX, .int tS, .int tA, .int tW, .ref mA, .ref mB, .ref mW, .ref mL, .int lS]))] H := hP
          have hD : va_D A [(m0, .inr (8, [.ref mH, .int aM, .long va, .int mM, .long vq, .int oV, .int pL, .int lI, .int sW, .int dP, .int sT, .long aT, .int cH, .int iW, .ref mI, .ref mJ, .ref mS, .ref mD, .int iH, .int aE, .int mN, .long sZ, .ref mX, .int tS, .int tA, .int tW, .ref mA, .ref mB, .ref mW, .ref mL, .int lS]))] := hD
          refine kVret (u := (va, mM, vq)) hx hb hr hlocks hS dX8_right_77 ?_ (hP.sub [0] rfl) (hD.sub [0] (by decide) rfl)
          try dsimp only
          repeat' (with_reducible apply And.intro)
          all_goals first | with_reducible assumption | ((try simp only [jT_, jP_, jD_, jC_, jB_, jW_, Int32.reduceToInt, Int64.reduceToInt, true_or, or_true, true_and, and_true]) <;> omega)
        · have t_60_1 := c_60_1
          try simp only [kb_eq0, kb_ne0, lg_cmp_lt, lg_cmp_le, lg_cmp_gt, lg_cmp_ge, lg_cmp_eq] at t_60_1
          try simp only [Int32.lt_iff_toInt_lt, Int32.le_iff_toInt_le, ← Int32.toInt_inj, Int64.lt_iff_toInt_lt, Int64.le_iff_toInt_le, ← Int64.toInt_inj, Int32.toInt_toInt64, Int32.reduceToInt, Int64.reduceToInt] at t_60_1
          refine lv_aload_n hx hb dX8_right_63 rfl (lv_at hl 1 rfl) ?_
          refine va_get (D := D) (ci := 8) (v := .int aM) (C := RX8) (T := TX8) (N := 31) hx hb hts iX8_right_X8 hown hK hP 0 rfl rfl 1 (by decide) (hts (.fieldLink RX8 61 "TapeCalculatorModel" "accMinus" "Z") (List.mem_of_getElem? (i := 3) rfl)) (fun _ h9 => h9) rfl dX8_right_64 ?_
          refine lv_goto (tgt := 74) hx hb dX8_right_67 (by decide) ?_
          refine va_put (D := D) (ci := 8) (v := .int aM) (ty := .boolean) (C := RX8) (T := TX8) (N := 31) hx hb hts iX8_right_X8 tyX8 tyX8_ok nmX8 hown hK hP hD hS 0 rfl rfl 3 (by decide) (hts (.fieldLink RX8 69 "TapeCalculatorModel" "mqMinus" "Z") (List.mem_of_getElem? (i := 4) rfl)) (fun _ h9 => h9) rfl (by decide +kernel) (kz_n (k_b (by first | assumption | omega))) (kz_f (k_b (by first | assumption | omega))) (Nat.le_of_ble_eq_true rfl) dX8_right_74 (fun H locs hP hD hS => ?_)
          have hP : va_P D vwCl [(m0, .inr (8, [.ref mH, .int aM, .long va, .int aM, .long vq, .int oV, .int pL, .int lI, .int sW, .int dP, .int sT, .long aT, .int cH, .int iW, .ref mI, .ref mJ, .ref mS, .ref mD, .int iH, .int aE, .int mN, .long sZ, .ref mX, .int tS, .int tA, .int tW, .ref mA, .ref mB, .ref mW, .ref mL, .int lS]))] H := hP
          have hD : va_D A [(m0, .inr (8, [.ref mH, .int aM, .long va, .int aM, .long vq, .int oV, .int pL, .int lI, .int sW, .int dP, .int sT, .long aT, .int cH, .int iW, .ref mI, .ref mJ, .ref mS, .ref mD, .int iH, .int aE, .int mN, .long sZ, .ref mX, .int tS, .int tA, .int tW, .ref mA, .ref mB, .ref mW, .ref mL, .int lS]))] := hD
          refine kVret (u := (va, aM, vq)) hx hb hr hlocks hS dX8_right_77 ?_ (hP.sub [0] rfl) (hD.sub [0] (by decide) rfl)
          try dsimp only
          repeat' (with_reducible apply And.intro)
          all_goals first | with_reducible assumption | ((try simp only [jT_, jP_, jD_, jC_, jB_, jW_, Int32.reduceToInt, Int64.reduceToInt, true_or, or_true, true_and, and_true]) <;> omega)
      · have t_4_0 := c_4_0
        try simp only [kb_eq0, kb_ne0, lg_cmp_lt, lg_cmp_le, lg_cmp_gt, lg_cmp_ge, lg_cmp_eq] at t_4_0
        try simp only [Int32.lt_iff_toInt_lt, Int32.le_iff_toInt_le, ← Int32.toInt_inj, Int64.lt_iff_toInt_lt, Int64.le_iff_toInt_le, ← Int64.toInt_inj, Int32.toInt_toInt64, Int32.reduceToInt, Int64.reduceToInt] at t_4_0
        refine lv_aload_n hx hb dX8_right_7 rfl (lv_at hl 1 rfl) ?_
        refine va_get (D := D) (ci := 8) (v := .long va) (C := RX8) (T := TX8) (N := 31) hx hb hts iX8_right_X8 hown hK hP 0 rfl rfl 2 (by decide) (hts (.fieldLink RX8 65 "TapeCalculatorModel" "acc" "J") (List.mem_of_getElem? (i := 1) rfl)) (fun _ h9 => h9) rfl dX8_right_8 ?_
        refine lv_lconst (v := 1) hx hb dX8_right_11 (by decide) ?_
        refine lv_land hx hb dX8_right_12 ?_
        refine lv_topl (fun x_3 ex_3 => ?_)
        refine lv_lstore (lv' := [(4, .long x_3), (3, .int j), (0, .ref m0), (1, .int n), (2, .int z)]) hx hb dX8_right_13 hl (by decide) rfl (fun ls hl => ?_)
        refine lv_aload_n hx hb dX8_right_15 rfl (lv_at hl 2 rfl) ?_
        refine lv_aload_n hx hb dX8_right_16 rfl (lv_at hl 2 rfl) ?_
        refine va_get (D := D) (ci := 8) (v := .long va) (C := RX8) (T := TX8) (N := 31) hx hb hts iX8_right_X8 hown hK hP 0 rfl rfl 2 (by decide) (hts (.fieldLink RX8 65 "TapeCalculatorModel" "acc" "J") (List.mem_of_getElem? (i := 1) rfl)) (fun _ h9 => h9) rfl dX8_right_17 ?_
        refine lv_iconst (v := 1) hx hb dX8_right_20 (by decide) ?_
        refine lv_lshr hx hb dX8_right_21 rfl ?_
        refine lv_topl (fun x_4 ex_4 => ?_)
        refine va_put (D := D) (ci := 8) (v := .long x_4) (ty := .long) (C := RX8) (T := TX8) (N := 31) hx hb hts iX8_right_X8 tyX8 tyX8_ok nmX8 hown hK hP hD hS 0 rfl rfl 2 (by decide) (hts (.fieldLink RX8 65 "TapeCalculatorModel" "acc" "J") (List.mem_of_getElem? (i := 1) rfl)) (fun _ h9 => h9) rfl (by decide +kernel) rfl rfl (Nat.le_of_ble_eq_true rfl) dX8_right_22 (fun H locs hP hD hS => ?_)
        have hP : va_P D vwCl [(m0, .inr (8, [.ref mH, .int aM, .long x_4, .int mM, .long vq, .int oV, .int pL, .int lI, .int sW, .int dP, .int sT, .long aT, .int cH, .int iW, .ref mI, .ref mJ, .ref mS, .ref mD, .int iH, .int aE, .int mN, .long sZ, .ref mX, .int tS, .int tA, .int tW, .ref mA, .ref mB, .ref mW, .ref mL, .int lS]))] H := hP
        have hD : va_D A [(m0, .inr (8, [.ref mH, .int aM, .long x_4, .int mM, .long vq, .int oV, .int pL, .int lI, .int sW, .int dP, .int sT, .long aT, .int cH, .int iW, .ref mI, .ref mJ, .ref mS, .ref mD, .int iH, .int aE, .int mN, .long sZ, .ref mX, .int tS, .int tA, .int tW, .ref mA, .ref mB, .ref mW, .ref mL, .int lS]))] := hD
        refine lv_aload_n hx hb dX8_right_25 rfl (lv_at hl 2 rfl) ?_
        refine lv_iload_n hx hb dX8_right_26 rfl (lv_at hl 4 rfl) ?_
        refine lv_if_eq (tgt := 45) hx hb dX8_right_27 (by decide) (fun c_27_4 => ?_) (fun c_27_4 => ?_)
        · have t_27_4 := c_27_4
          try simp only [kb_eq0, kb_ne0, lg_cmp_lt, lg_cmp_le, lg_cmp_gt, lg_cmp_ge, lg_cmp_eq] at t_27_4
          try simp only [Int32.lt_iff_toInt_lt, Int32.le_iff_toInt_le, ← Int32.toInt_inj, Int64.lt_iff_toInt_lt, Int64.le_iff_toInt_le, ← Int64.toInt_inj, Int32.toInt_toInt64, Int32.reduceToInt, Int64.reduceToInt] at t_27_4
          refine lv_aload_n hx hb dX8_right_45 rfl (lv_at hl 2 rfl) ?_
          refine va_get (D := D) (ci := 8) (v := .long vq) (C := RX8) (T := TX8) (N := 31) hx hb hts iX8_right_X8 hown hK hP 0 rfl rfl 4 (by decide) (hts (.fieldLink RX8 72 "TapeCalculatorModel" "mq" "J") (List.mem_of_getElem? (i := 2) rfl)) (fun _ h9 => h9) rfl dX8_right_46 ?_
          refine va_put (D := D) (ci := 8) (v := .long vq) (ty := .long) (C := RX8) (T := TX8) (N := 31) hx hb hts iX8_right_X8 tyX8 tyX8_ok nmX8 hown hK hP hD hS 0 rfl rfl 4 (by decide) (hts (.fieldLink RX8 72 "TapeCalculatorModel" "mq" "J") (List.mem_of_getElem? (i := 2) rfl)) (fun _ h9 => h9) rfl (by decide +kernel) rfl rfl (Nat.le_of_ble_eq_true rfl) dX8_right_49 (fun H locs hP hD hS => ?_)
          have hP : va_P D vwCl [(m0, .inr (8, [.ref mH, .int aM, .long x_4, .int mM, .long vq, .int oV, .int pL, .int lI, .int sW, .int dP, .int sT, .long aT, .int cH, .int iW, .ref mI, .ref mJ, .ref mS, .ref mD, .int iH, .int aE, .int mN, .long sZ, .ref mX, .int tS, .int tA, .int tW, .ref mA, .ref mB, .ref mW, .ref mL, .int lS]))] H := hP
          have hD : va_D A [(m0, .inr (8, [.ref mH, .int aM, .long x_4, .int mM, .long vq, .int oV, .int pL, .int lI, .int sW, .int dP, .int sT, .long aT, .int cH, .int iW, .ref mI, .ref mJ, .ref mS, .ref mD, .int iH, .int aE, .int mN, .long sZ, .ref mX, .int tS, .int tA, .int tW, .ref mA, .ref mB, .ref mW, .ref mL, .int lS]))] := hD
          obtain ⟨x_6, ex_6⟩ : ∃ y : Int32, y = j + 1 := ⟨_, rfl⟩
          refine lv_iinc (v := x_6) (lv' := [(3, .int x_6), (4, .long x_3), (0, .ref m0), (1, .int n), (2, .int z)]) hx hb dX8_right_52 hl (k := 1) rfl (by rw [ex_6]; rfl) (by decide) rfl (fun ls hl => ?_)
          refine lv_goto (tgt := 2) hx hb dX8_right_55 (by decide) ?_
          have hd := k_inc (i := j) (n := n) (by omega)
          rw [← ex_6] at hd
          exact ih x_6 x_4 vq (by omega)  _ _ (hP.sub [0] rfl) (hD.sub [0] (by decide) rfl) hS ls (lv_sub hl [0, 2, 3, 4] rfl)
        · have t_27_4 := c_27_4
          try simp only [kb_eq0, kb_ne0, lg_cmp_lt, lg_cmp_le, lg_cmp_gt, lg_cmp_ge, lg_cmp_eq] at t_27_4
          try simp only [Int32.lt_iff_toInt_lt, Int32.le_iff_toInt_le, ← Int32.toInt_inj, Int64.lt_iff_toInt_lt, Int64.le_iff_toInt_le, ← Int64.toInt_inj, Int32.toInt_toInt64, Int32.reduceToInt, Int64.reduceToInt] at t_27_4
          refine lv_aload_n hx hb dX8_right_30 rfl (lv_at hl 2 rfl) ?_
          refine va_get (D := D) (ci := 8) (v := .long vq) (C := RX8) (T := TX8) (N := 31) hx hb hts iX8_right_X8 hown hK hP 0 rfl rfl 4 (by decide) (hts (.fieldLink RX8 72 "TapeCalculatorModel" "mq" "J") (List.mem_of_getElem? (i := 2) rfl)) (fun _ h9 => h9) rfl dX8_right_31 ?_
          refine lv_iconst (v := 1) hx hb dX8_right_34 (by decide) ?_
          refine lv_lshr hx hb dX8_right_35 rfl ?_
          refine lv_lload hx hb dX8_right_36 (lv_at hl 0 rfl) ?_
          refine lv_bipush (v := 34) hx hb dX8_right_38 (by decide) ?_
          refine lv_lshl hx hb dX8_right_40 rfl ?_
          refine lv_lor hx hb dX8_right_41 ?_
          refine lv_goto (tgt := 49) hx hb dX8_right_42 (by decide) ?_
          refine lv_topl (fun x_7 ex_7 => ?_)
          refine va_put (D := D) (ci := 8) (v := .long x_7) (ty := .long) (C := RX8) (T := TX8) (N := 31) hx hb hts iX8_right_X8 tyX8 tyX8_ok nmX8 hown hK hP hD hS 0 rfl rfl 4 (by decide) (hts (.fieldLink RX8 72 "TapeCalculatorModel" "mq" "J") (List.mem_of_getElem? (i := 2) rfl)) (fun _ h9 => h9) rfl (by decide +kernel) rfl rfl (Nat.le_of_ble_eq_true rfl) dX8_right_49 (fun H locs hP hD hS => ?_)
          have hP : va_P D vwCl [(m0, .inr (8, [.ref mH, .int aM, .long x_4, .int mM, .long x_7, .int oV, .int pL, .int lI, .int sW, .int dP, .int sT, .long aT, .int cH, .int iW, .ref mI, .ref mJ, .ref mS, .ref mD, .int iH, .int aE, .int mN, .long sZ, .ref mX, .int tS, .int tA, .int tW, .ref mA, .ref mB, .ref mW, .ref mL, .int lS]))] H := hP
          have hD : va_D A [(m0, .inr (8, [.ref mH, .int aM, .long x_4, .int mM, .long x_7, .int oV, .int pL, .int lI, .int sW, .int dP, .int sT, .long aT, .int cH, .int iW, .ref mI, .ref mJ, .ref mS, .ref mD, .int iH, .int aE, .int mN, .long sZ, .ref mX, .int tS, .int tA, .int tW, .ref mA, .ref mB, .ref mW, .ref mL, .int lS]))] := hD
          obtain ⟨x_8, ex_8⟩ : ∃ y : Int32, y = j + 1 := ⟨_, rfl⟩
          refine lv_iinc (v := x_8) (lv' := [(3, .int x_8), (4, .long x_3), (0, .ref m0), (1, .int n), (2, .int z)]) hx hb dX8_right_52 hl (k := 1) rfl (by rw [ex_8]; rfl) (by decide) rfl (fun ls hl => ?_)
          refine lv_goto (tgt := 2) hx hb dX8_right_55 (by decide) ?_
          have hd := k_inc (i := j) (n := n) (by omega)
          rw [← ex_8] at hd
          exact ih x_8 x_4 x_7 (by omega)  _ _ (hP.sub [0] rfl) (hD.sub [0] (by decide) rfl) hS ls (lv_sub hl [0, 2, 3, 4] rfl)
  exact J2 _ 0 aC mQ (Nat.lt_succ_self _)  _ _ (hP.sub [0] rfl) (hD.sub [0] (by decide) rfl) hS ls (lv_sub hl [0, 1, 2, 3] rfl)
set_option maxRecDepth 100000 in
theorem iX8_go_X8 : ∀ w ∈ wsX80, w ∈ wsX8_go := fun w h => (goodIn_r (big := wsX8_go) wsX80 [2, 3, 4, 5, 6, 7, 8, 9, 10, 11, 12, 13, 14, 15, 16, 17, 18, 19, 20, 21, 22, 23, 24, 25, 26, 27, 28, 29, 30, 31, 32] rfl (by decide +kernel) w h).1
set_option maxRecDepth 100000 in
set_option maxHeartbeats 4000000 in
theorem q_go (l : Launch) (D : va_G) (cI cL cB cZ cT : ClassId) (sz : Nat) (m0 mH mI mJ mS mD mX mA mB mW mL : Nat) (aM : Int32) (aC : Int64) (mM : Int32) (mQ : Int64) (oV pL lI sW dP sT : Int32) (aT : Int64) (cH iW iH aE mN : Int32) (sZ : Int64) (tS tA tW lS : Int32) (mo : Int32) : kM (S := (Int32)) l yX8_go wsX8_go ({ frames := 0, cells := 0, slots := 0, locals := 0 }) D (kT cI cL cB cZ cT) [.ref m0, .int mo] [(m0, .inr (8, [.ref mH, .int aM, .long aC, .int mM, .long mQ, .int oV, .int pL, .int lI, .int sW, .int dP, .int sT, .long aT, .int cH, .int iW, .ref mI, .ref mJ, .ref mS, .ref mD, .int iH, .int aE, .int mN, .long sZ, .ref mX, .int tS, .int tA, .int tW, .ref mA, .ref mB, .ref mW, .ref mL, .int lS]))] sz eV (fun r u => jP_ (u)) (fun u => [(m0, .inr (8, [.ref mH, .int aM, .long aC, .int mM, .long mQ, .int oV, .int u, .int lI, .int sW, .int dP, .int sT, .long aT, .int cH, .int iW, .ref mI, .ref mJ, .ref mS, .ref mD, .int iH, .int aE, .int mN, .long sZ, .ref mX, .int tS, .int tA, .int tW, .ref mA, .ref mB, .ref mW, .ref mL, .int lS]))]) 0 0 := by
  refine kStart (cc := cX8_go) (maxL := 2) (ret := none) (own := RX8) (by decide) rfl rfl (Nat.le_of_ble_eq_true rfl) ?_
  intro p e s m args below meth c A ls hx hb hr hml hown hts hlocks hnm hsz hA hG hP hD hS hl
  have hK := hG.1
  have hl : lv_has ls 2 [(0, .ref m0), (1, .int mo)] := hl
  refine lv_aload_n hx hb dX8_go_0 rfl (lv_at hl 0 rfl) ?_
  refine lv_aload_n hx hb dX8_go_1 rfl (lv_at hl 0 rfl) ?_
  refine va_get (D := D) (ci := 8) (v := .int pL) (C := RX8) (T := TX8) (N := 31) hx hb hts iX8_go_X8 hown hK hP 0 rfl rfl 6 (by decide) (hts (.fieldLink RX8 78 "TapeCalculatorModel" "place" "I") (List.mem_of_getElem? (i := 1) rfl)) (fun _ h9 => h9) rfl dX8_go_2 ?_
  refine lv_iload_n hx hb dX8_go_5 rfl (lv_at hl 1 rfl) ?_
  refine lv_iadd hx hb dX8_go_6 ?_
  refine lv_sipush (v := 511) hx hb dX8_go_7 (by decide) ?_
  refine lv_iand hx hb dX8_go_10 ?_
  refine lv_topi (fun x_1 ex_1 => ?_)
  refine va_put (D := D) (ci := 8) (v := .int x_1) (ty := .int) (C := RX8) (T := TX8) (N := 31) hx hb hts iX8_go_X8 tyX8 tyX8_ok nmX8 hown hK hP hD hS 0 rfl rfl 6 (by decide) (hts (.fieldLink RX8 78 "TapeCalculatorModel" "place" "I") (List.mem_of_getElem? (i := 1) rfl)) (fun _ h9 => h9) rfl (by decide +kernel) rfl rfl (Nat.le_of_ble_eq_true rfl) dX8_go_11 (fun H locs hP hD hS => ?_)
  have hP : va_P D vwCl [(m0, .inr (8, [.ref mH, .int aM, .long aC, .int mM, .long mQ, .int oV, .int x_1, .int lI, .int sW, .int dP, .int sT, .long aT, .int cH, .int iW, .ref mI, .ref mJ, .ref mS, .ref mD, .int iH, .int aE, .int mN, .long sZ, .ref mX, .int tS, .int tA, .int tW, .ref mA, .ref mB, .ref mW, .ref mL, .int lS]))] H := hP
  have hD : va_D A [(m0, .inr (8, [.ref mH, .int aM, .long aC, .int mM, .long mQ, .int oV, .int x_1, .int lI, .int sW, .int dP, .int sT, .long aT, .int cH, .int iW, .ref mI, .ref mJ, .ref mS, .ref mD, .int iH, .int aE, .int mN, .long sZ, .ref mX, .int tS, .int tA, .int tW, .ref mA, .ref mB, .ref mW, .ref mL, .int lS]))] := hD
  refine kVret (u := x_1) hx hb hr hlocks hS dX8_go_14 ?_ (hP.sub [0] rfl) (hD.sub [0] (by decide) rfl)
  have hk9 := k_and (x := pL + mo) (m := 511) 9 (by decide) (by decide)
  rw [← ex_1] at hk9
  try dsimp only
  unfold jP_
  omega
set_option maxRecDepth 100000 in
set_option maxHeartbeats 4000000 in
theorem q_moves (l : Launch) (D : va_G) (cI cL cB cZ cT : ClassId) (sz : Nat) (m0 mH mI mJ mS mD mX mA mB mW mL : Nat) (aM : Int32) (aC : Int64) (mM : Int32) (mQ : Int64) (oV pL lI sW dP sT : Int32) (aT : Int64) (cH iW iH aE mN : Int32) (sZ : Int64) (tS tA tW lS : Int32) (a n : Int32) (haM : jB_ aM) (hmM : jB_ mM) (hoV : jB_ oV) : kM (S := (Int32 × Int64 × Int32 × Int64 × Int32)) l yX8_moves wsX8_moves ({ frames := 1, cells := 0, slots := 0, locals := 25 }) D (kT cI cL cB cZ cT) [.ref m0, .int a, .int n] [(m0, .inr (8, [.ref mH, .int aM, .long aC, .int mM, .long mQ, .int oV, .int pL, .int lI, .int sW, .int dP, .int sT, .long aT, .int cH, .int iW, .ref mI, .ref mJ, .ref mS, .ref mD, .int iH, .int aE, .int mN, .long sZ, .ref mX, .int tS, .int tA, .int tW, .ref mA, .ref mB, .ref mW, .ref mL, .int lS]))] sz eI (fun r u => r.toInt = 0 ∧ jB_ (u.1) ∧ jB_ (u.2.2.1) ∧ jB_ (u.2.2.2.2)) (fun u => [(m0, .inr (8, [.ref mH, .int u.1, .long u.2.1, .int u.2.2.1, .long u.2.2.2.1, .int u.2.2.2.2, .int pL, .int lI, .int sW, .int dP, .int sT, .long aT, .int cH, .int iW, .ref mI, .ref mJ, .ref mS, .ref mD, .int iH, .int aE, .int mN, .long sZ, .ref mX, .int tS, .int tA, .int tW, .ref mA, .ref mB, .ref mW, .ref mL, .int lS]))]) 0 0 := by
  refine kStart (cc := cX8_moves) (maxL := 3) (ret := (some .int)) (own := RX8) (by decide) rfl rfl (Nat.le_of_ble_eq_true rfl) ?_
  intro p e s m args below meth c A ls hx hb hr hml hown hts hlocks hnm hsz hA hG hP hD hS hl
  have hK := hG.1
  have hl : lv_has ls 3 [(0, .ref m0), (1, .int a), (2, .int n)] := hl
  refine lv_iload_n hx hb dX8_moves_0 rfl (lv_at hl 1 rfl) ?_
  refine lv_bipush (v := 20) hx hb dX8_moves_1 (by decide) ?_
  refine lv_icmp_eq (tgt := 12) hx hb dX8_moves_3 (by decide) (fun c_3_0 => ?_) (fun c_3_0 => ?_)
  · have t_3_0 := c_3_0
    try simp only [kb_eq0, kb_ne0, lg_cmp_lt, lg_cmp_le, lg_cmp_gt, lg_cmp_ge, lg_cmp_eq] at t_3_0
    try simp only [Int32.lt_iff_toInt_lt, Int32.le_iff_toInt_le, ← Int32.toInt_inj, Int64.lt_iff_toInt_lt, Int64.le_iff_toInt_le, ← Int64.toInt_inj, Int32.toInt_toInt64, Int32.reduceToInt, Int64.reduceToInt] at t_3_0
    refine lv_aload_n hx hb dX8_moves_12 rfl (lv_at hl 0 rfl) ?_
    refine lv_iload_n hx hb dX8_moves_13 rfl (lv_at hl 2 rfl) ?_
    refine lv_iload_n hx hb dX8_moves_14 rfl (lv_at hl 1 rfl) ?_
    refine lv_bipush (v := 20) hx hb dX8_moves_15 (by decide) ?_
    refine lv_icmp_ne (tgt := 24) hx hb dX8_moves_17 (by decide) (fun c_17_1 => ?_) (fun c_17_1 => ?_)
    · have t_17_1 := c_17_1
      try simp only [kb_eq0, kb_ne0, lg_cmp_lt, lg_cmp_le, lg_cmp_gt, lg_cmp_ge, lg_cmp_eq] at t_17_1
      try simp only [Int32.lt_iff_toInt_lt, Int32.le_iff_toInt_le, ← Int32.toInt_inj, Int64.lt_iff_toInt_lt, Int64.le_iff_toInt_le, ← Int64.toInt_inj, Int32.toInt_toInt64, Int32.reduceToInt, Int64.reduceToInt] at t_17_1
      refine lv_iconst (v := 0) hx hb dX8_moves_24 (by decide) ?_
      refine kCallVd (wr := []) (va_runV (As := [.int n, .int 0]) (rest := []) ⟨hx, hb, hml, hown, hts⟩ (q_left l D cI cL cB cZ cT _ m0 mH mI mJ mS mD mX mA mB mW mL aM aC mM mQ oV pL lI sW dP sT aT cH iW iH aE mN sZ tS tA tW lS n 0 (by first | with_reducible assumption | ((try simp only [jT_, jP_, jD_, jC_, jB_, jW_, Int32.reduceToInt, Int64.reduceToInt, true_or, or_true, true_and, and_true]) <;> omega)) (by first | with_reducible assumption | ((try simp only [jT_, jP_, jD_, jC_, jB_, jW_, Int32.reduceToInt, Int64.reduceToInt, true_or, or_true, true_and, and_true]) <;> omega)) (by first | with_reducible assumption | ((try simp only [jT_, jP_, jD_, jC_, jB_, jW_, Int32.reduceToInt, Int64.reduceToInt, true_or, or_true, true_and, and_true]) <;> omega))) (cwV 2 hts gX8_moves_X8_left rfl rfl rfl (by decide +kernel) ⟨Nat.le_of_ble_eq_true rfl, Nat.le_of_ble_eq_true rfl⟩) (kPreV hG hP hD [0] rfl (by decide) 0 8 rfl rfl rfl) rfl rfl hl.1 rfl (lv_room (Nat.le_of_ble_eq_true rfl)) dX8_moves_25 ⟨Nat.le_of_ble_eq_true rfl, Nat.le_of_ble_eq_true rfl⟩) hA hP hD hS [0] [] rfl rfl (by decide) (by decide) (fun _ u_r_3 H locs wr_3 hP hD hS => ?_)
      have hP : va_P D vwCl [(m0, .inr (8, [.ref mH, .int u_r_3.1, .long u_r_3.2.1, .int mM, .long u_r_3.2.2.1, .int u_r_3.2.2.2, .int pL, .int lI, .int sW, .int dP, .int sT, .long aT, .int cH, .int iW, .ref mI, .ref mJ, .ref mS, .ref mD, .int iH, .int aE, .int mN, .long sZ, .ref mX, .int tS, .int tA, .int tW, .ref mA, .ref mB, .ref mW, .ref mL, .int lS]))] H := hP
      have hD : va_D A [(m0, .inr (8, [.ref mH, .int u_r_3.1, .long u_r_3.2.1, .int mM, .long u_r_3.2.2.1, .int u_r_3.2.2.2, .int pL, .int lI, .int sW, .int dP, .int sT, .long aT, .int cH, .int iW, .ref mI, .ref mJ, .ref mS, .ref mD, .int iH, .int aE, .int mN, .long sZ, .ref mX, .int tS, .int tA, .int tW, .ref mA, .ref mB, .ref mW, .ref mL, .int lS]))] := hD
      try dsimp only at wr_3
      try simp only [Int32.reduceToInt, Int64.reduceToInt] at wr_3
      obtain ⟨wr_3_0, wr_3_1⟩ := wr_3
      refine lv_goto (tgt := 47) hx hb dX8_moves_28 (by decide) ?_
      refine lv_iconst (v := 0) hx hb dX8_moves_47 (by decide) ?_
      refine kIret (u := (u_r_3.1, u_r_3.2.1, mM, u_r_3.2.2.1, u_r_3.2.2.2)) hx hb hr rfl hlocks hS dX8_moves_48 ?_ (hP.sub [0] rfl) (hD.sub [0] (by decide) rfl)
      try dsimp only
      repeat' (with_reducible apply And.intro)
      all_goals first | with_reducible assumption | ((try simp only [jT_, jP_, jD_, jC_, jB_, jW_, Int32.reduceToInt, Int64.reduceToInt, true_or, or_true, true_and, and_true]) <;> omega)
    · have t_17_1 := c_17_1
      try simp only [kb_eq0, kb_ne0, lg_cmp_lt, lg_cmp_le, lg_cmp_gt, lg_cmp_ge, lg_cmp_eq] at t_17_1
      try simp only [Int32.lt_iff_toInt_lt, Int32.le_iff_toInt_le, ← Int32.toInt_inj, Int64.lt_iff_toInt_lt, Int64.le_iff_toInt_le, ← Int64.toInt_inj, Int32.toInt_toInt64, Int32.reduceToInt, Int64.reduceToInt] at t_17_1
      refine lv_iconst (v := 1) hx hb dX8_moves_20 (by decide) ?_
      refine lv_goto (tgt := 25) hx hb dX8_moves_21 (by decide) ?_
      refine kCallVd (wr := []) (va_runV (As := [.int n, .int 1]) (rest := []) ⟨hx, hb, hml, hown, hts⟩ (q_left l D cI cL cB cZ cT _ m0 mH mI mJ mS mD mX mA mB mW mL aM aC mM mQ oV pL lI sW dP sT aT cH iW iH aE mN sZ tS tA tW lS n 1 (by first | with_reducible assumption | ((try simp only [jT_, jP_, jD_, jC_, jB_, jW_, Int32.reduceToInt, Int64.reduceToInt, true_or, or_true, true_and, and_true]) <;> omega)) (by first | with_reducible assumption | ((try simp only [jT_, jP_, jD_, jC_, jB_, jW_, Int32.reduceToInt, Int64.reduceToInt, true_or, or_true, true_and, and_true]) <;> omega)) (by first | with_reducible assumption | ((try simp only [jT_, jP_, jD_, jC_, jB_, jW_, Int32.reduceToInt, Int64.reduceToInt, true_or, or_true, true_and, and_true]) <;> omega))) (cwV 2 hts gX8_moves_X8_left rfl rfl rfl (by decide +kernel) ⟨Nat.le_of_ble_eq_true rfl, Nat.le_of_ble_eq_true rfl⟩) (kPreV hG hP hD [0] rfl (by decide) 0 8 rfl rfl rfl) rfl rfl hl.1 rfl (lv_room (Nat.le_of_ble_eq_true rfl)) dX8_moves_25 ⟨Nat.le_of_ble_eq_true rfl, Nat.le_of_ble_eq_true rfl⟩) hA hP hD hS [0] [] rfl rfl (by decide) (by decide) (fun _ u_r_4 H locs wr_4 hP hD hS => ?_)
      have hP : va_P D vwCl [(m0, .inr (8, [.ref mH, .int u_r_4.1, .long u_r_4.2.1, .int mM, .long u_r_4.2.2.1, .int u_r_4.2.2.2, .int pL, .int lI, .int sW, .int dP, .int sT, .long aT, .int cH, .int iW, .ref mI, .ref mJ, .ref mS, .ref mD, .int iH, .int aE, .int mN, .long sZ, .ref mX, .int tS, .int tA, .int tW, .ref mA, .ref mB, .ref mW, .ref mL, .int lS]))] H := hP
      have hD : va_D A [(m0, .inr (8, [.ref mH, .int u_r_4.1, .long u_r_4.2.1, .int mM, .long u_r_4.2.2.1, .int u_r_4.2.2.2, .int pL, .int lI, .int sW, .int dP, .int sT, .long aT, .int cH, .int iW, .ref mI, .ref mJ, .ref mS, .ref mD, .int iH, .int aE, .int mN, .long sZ, .ref mX, .int tS, .int tA, .int tW, .ref mA, .ref mB, .ref mW, .ref mL, .int lS]))] := hD
      try dsimp only at wr_4
      try simp only [Int32.reduceToInt, Int64.reduceToInt] at wr_4
      obtain ⟨wr_4_0, wr_4_1⟩ := wr_4
      refine lv_goto (tgt := 47) hx hb dX8_moves_28 (by decide) ?_
      refine lv_iconst (v := 0) hx hb dX8_moves_47 (by decide) ?_
      refine kIret (u := (u_r_4.1, u_r_4.2.1, mM, u_r_4.2.2.1, u_r_4.2.2.2)) hx hb hr rfl hlocks hS dX8_moves_48 ?_ (hP.sub [0] rfl) (hD.sub [0] (by decide) rfl)
      try dsimp only
      repeat' (with_reducible apply And.intro)
      all_goals first | with_reducible assumption | ((try simp only [jT_, jP_, jD_, jC_, jB_, jW_, Int32.reduceToInt, Int64.reduceToInt, true_or, or_true, true_and, and_true]) <;> omega)
  · have t_3_0 := c_3_0
    try simp only [kb_eq0, kb_ne0, lg_cmp_lt, lg_cmp_le, lg_cmp_gt, lg_cmp_ge, lg_cmp_eq] at t_3_0
    try simp only [Int32.lt_iff_toInt_lt, Int32.le_iff_toInt_le, ← Int32.toInt_inj, Int64.lt_iff_toInt_lt, Int64.le_iff_toInt_le, ← Int64.toInt_inj, Int32.toInt_toInt64, Int32.reduceToInt, Int64.reduceToInt] at t_3_0
    refine lv_iload_n hx hb dX8_moves_6 rfl (lv_at hl 1 rfl) ?_
    refine lv_bipush (v := 22) hx hb dX8_moves_7 (by decide) ?_
    refine lv_icmp_ne (tgt := 31) hx hb dX8_moves_9 (by decide) (fun c_9_4 => ?_) (fun c_9_4 => ?_)
    · have t_9_4 := c_9_4
      try simp only [kb_eq0, kb_ne0, lg_cmp_lt, lg_cmp_le, lg_cmp_gt, lg_cmp_ge, lg_cmp_eq] at t_9_4
      try simp only [Int32.lt_iff_toInt_lt, Int32.le_iff_toInt_le, ← Int32.toInt_inj, Int64.lt_iff_toInt_lt, Int64.le_iff_toInt_le, ← Int64.toInt_inj, Int32.toInt_toInt64, Int32.reduceToInt, Int64.reduceToInt] at t_9_4
      refine lv_aload_n hx hb dX8_moves_31 rfl (lv_at hl 0 rfl) ?_
      refine lv_iload_n hx hb dX8_moves_32 rfl (lv_at hl 2 rfl) ?_
      refine lv_iload_n hx hb dX8_moves_33 rfl (lv_at hl 1 rfl) ?_
      refine lv_bipush (v := 21) hx hb dX8_moves_34 (by decide) ?_
      refine lv_icmp_ne (tgt := 43) hx hb dX8_moves_36 (by decide) (fun c_36_5 => ?_) (fun c_36_5 => ?_)
      · have t_36_5 := c_36_5
        try simp only [kb_eq0, kb_ne0, lg_cmp_lt, lg_cmp_le, lg_cmp_gt, lg_cmp_ge, lg_cmp_eq] at t_36_5
        try simp only [Int32.lt_iff_toInt_lt, Int32.le_iff_toInt_le, ← Int32.toInt_inj, Int64.lt_iff_toInt_lt, Int64.le_iff_toInt_le, ← Int64.toInt_inj, Int32.toInt_toInt64, Int32.reduceToInt, Int64.reduceToInt] at t_36_5
        refine lv_iconst (v := 0) hx hb dX8_moves_43 (by decide) ?_
        refine kCallVd (wr := []) (va_runV (As := [.int n, .int 0]) (rest := []) ⟨hx, hb, hml, hown, hts⟩ (q_right l D cI cL cB cZ cT _ m0 mH mI mJ mS mD mX mA mB mW mL aM aC mM mQ oV pL lI sW dP sT aT cH iW iH aE mN sZ tS tA tW lS n 0 (by first | with_reducible assumption | ((try simp only [jT_, jP_, jD_, jC_, jB_, jW_, Int32.reduceToInt, Int64.reduceToInt, true_or, or_true, true_and, and_true]) <;> omega)) (by first | with_reducible assumption | ((try simp only [jT_, jP_, jD_, jC_, jB_, jW_, Int32.reduceToInt, Int64.reduceToInt, true_or, or_true, true_and, and_true]) <;> omega))) (cwV 2 hts gX8_moves_X8_right rfl rfl rfl (by decide +kernel) ⟨Nat.le_of_ble_eq_true rfl, Nat.le_of_ble_eq_true rfl⟩) (kPreV hG hP hD [0] rfl (by decide) 0 8 rfl rfl rfl) rfl rfl hl.1 rfl (lv_room (Nat.le_of_ble_eq_true rfl)) dX8_moves_44 ⟨Nat.le_of_ble_eq_true rfl, Nat.le_of_ble_eq_true rfl⟩) hA hP hD hS [0] [] rfl rfl (by decide) (by decide) (fun _ u_r_7 H locs wr_7 hP hD hS => ?_)
        have hP : va_P D vwCl [(m0, .inr (8, [.ref mH, .int aM, .long u_r_7.1, .int u_r_7.2.1, .long u_r_7.2.2, .int oV, .int pL, .int lI, .int sW, .int dP, .int sT, .long aT, .int cH, .int iW, .ref mI, .ref mJ, .ref mS, .ref mD, .int iH, .int aE, .int mN, .long sZ, .ref mX, .int tS, .int tA, .int tW, .ref mA, .ref mB, .ref mW, .ref mL, .int lS]))] H := hP
        have hD : va_D A [(m0, .inr (8, [.ref mH, .int aM, .long u_r_7.1, .int u_r_7.2.1, .long u_r_7.2.2, .int oV, .int pL, .int lI, .int sW, .int dP, .int sT, .long aT, .int cH, .int iW, .ref mI, .ref mJ, .ref mS, .ref mD, .int iH, .int aE, .int mN, .long sZ, .ref mX, .int tS, .int tA, .int tW, .ref mA, .ref mB, .ref mW, .ref mL, .int lS]))] := hD
        try dsimp only at wr_7
        try simp only [Int32.reduceToInt, Int64.reduceToInt] at wr_7
        refine lv_iconst (v := 0) hx hb dX8_moves_47 (by decide) ?_
        refine kIret (u := (aM, u_r_7.1, u_r_7.2.1, u_r_7.2.2, oV)) hx hb hr rfl hlocks hS dX8_moves_48 ?_ (hP.sub [0] rfl) (hD.sub [0] (by decide) rfl)
        try dsimp only
        repeat' (with_reducible apply And.intro)
        all_goals first | with_reducible assumption | ((try simp only [jT_, jP_, jD_, jC_, jB_, jW_, Int32.reduceToInt, Int64.reduceToInt, true_or, or_true, true_and, and_true]) <;> omega)
      · have t_36_5 := c_36_5
        try simp only [kb_eq0, kb_ne0, lg_cmp_lt, lg_cmp_le, lg_cmp_gt, lg_cmp_ge, lg_cmp_eq] at t_36_5
        try simp only [Int32.lt_iff_toInt_lt, Int32.le_iff_toInt_le, ← Int32.toInt_inj, Int64.lt_iff_toInt_lt, Int64.le_iff_toInt_le, ← Int64.toInt_inj, Int32.toInt_toInt64, Int32.reduceToInt, Int64.reduceToInt] at t_36_5
        refine lv_iconst (v := 1) hx hb dX8_moves_39 (by decide) ?_
        refine lv_goto (tgt := 44) hx hb dX8_moves_40 (by decide) ?_
        refine kCallVd (wr := []) (va_runV (As := [.int n, .int 1]) (rest := []) ⟨hx, hb, hml, hown, hts⟩ (q_right l D cI cL cB cZ cT _ m0 mH mI mJ mS mD mX mA mB mW mL aM aC mM mQ oV pL lI sW dP sT aT cH iW iH aE mN sZ tS tA tW lS n 1 (by first | with_reducible assumption | ((try simp only [jT_, jP_, jD_, jC_, jB_, jW_, Int32.reduceToInt, Int64.reduceToInt, true_or, or_true, true_and, and_true]) <;> omega)) (by first | with_reducible assumption | ((try simp only [jT_, jP_, jD_, jC_, jB_, jW_, Int32.reduceToInt, Int64.reduceToInt, true_or, or_true, true_and, and_true]) <;> omega))) (cwV 2 hts gX8_moves_X8_right rfl rfl rfl (by decide +kernel) ⟨Nat.le_of_ble_eq_true rfl, Nat.le_of_ble_eq_true rfl⟩) (kPreV hG hP hD [0] rfl (by decide) 0 8 rfl rfl rfl) rfl rfl hl.1 rfl (lv_room (Nat.le_of_ble_eq_true rfl)) dX8_moves_44 ⟨Nat.le_of_ble_eq_true rfl, Nat.le_of_ble_eq_true rfl⟩) hA hP hD hS [0] [] rfl rfl (by decide) (by decide) (fun _ u_r_8 H locs wr_8 hP hD hS => ?_)
        have hP : va_P D vwCl [(m0, .inr (8, [.ref mH, .int aM, .long u_r_8.1, .int u_r_8.2.1, .long u_r_8.2.2, .int oV, .int pL, .int lI, .int sW, .int dP, .int sT, .long aT, .int cH, .int iW, .ref mI, .ref mJ, .ref mS, .ref mD, .int iH, .int aE, .int mN, .long sZ, .ref mX, .int tS, .int tA, .int tW, .ref mA, .ref mB, .ref mW, .ref mL, .int lS]))] H := hP
        have hD : va_D A [(m0, .inr (8, [.ref mH, .int aM, .long u_r_8.1, .int u_r_8.2.1, .long u_r_8.2.2, .int oV, .int pL, .int lI, .int sW, .int dP, .int sT, .long aT, .int cH, .int iW, .ref mI, .ref mJ, .ref mS, .ref mD, .int iH, .int aE, .int mN, .long sZ, .ref mX, .int tS, .int tA, .int tW, .ref mA, .ref mB, .ref mW, .ref mL, .int lS]))] := hD
        try dsimp only at wr_8
        try simp only [Int32.reduceToInt, Int64.reduceToInt] at wr_8
        refine lv_iconst (v := 0) hx hb dX8_moves_47 (by decide) ?_
        refine kIret (u := (aM, u_r_8.1, u_r_8.2.1, u_r_8.2.2, oV)) hx hb hr rfl hlocks hS dX8_moves_48 ?_ (hP.sub [0] rfl) (hD.sub [0] (by decide) rfl)
        try dsimp only
        repeat' (with_reducible apply And.intro)
        all_goals first | with_reducible assumption | ((try simp only [jT_, jP_, jD_, jC_, jB_, jW_, Int32.reduceToInt, Int64.reduceToInt, true_or, or_true, true_and, and_true]) <;> omega)
    · have t_9_4 := c_9_4
      try simp only [kb_eq0, kb_ne0, lg_cmp_lt, lg_cmp_le, lg_cmp_gt, lg_cmp_ge, lg_cmp_eq] at t_9_4
      try simp only [Int32.lt_iff_toInt_lt, Int32.le_iff_toInt_le, ← Int32.toInt_inj, Int64.lt_iff_toInt_lt, Int64.le_iff_toInt_le, ← Int64.toInt_inj, Int32.toInt_toInt64, Int32.reduceToInt, Int64.reduceToInt] at t_9_4
      refine lv_aload_n hx hb dX8_moves_12 rfl (lv_at hl 0 rfl) ?_
      refine lv_iload_n hx hb dX8_moves_13 rfl (lv_at hl 2 rfl) ?_
      refine lv_iload_n hx hb dX8_moves_14 rfl (lv_at hl 1 rfl) ?_
      refine lv_bipush (v := 20) hx hb dX8_moves_15 (by decide) ?_
      refine lv_icmp_ne (tgt := 24) hx hb dX8_moves_17 (by decide) (fun c_17_8 => ?_) (fun c_17_8 => ?_)
      · have t_17_8 := c_17_8
        try simp only [kb_eq0, kb_ne0, lg_cmp_lt, lg_cmp_le, lg_cmp_gt, lg_cmp_ge, lg_cmp_eq] at t_17_8
        try simp only [Int32.lt_iff_toInt_lt, Int32.le_iff_toInt_le, ← Int32.toInt_inj, Int64.lt_iff_toInt_lt, Int64.le_iff_toInt_le, ← Int64.toInt_inj, Int32.toInt_toInt64, Int32.reduceToInt, Int64.reduceToInt] at t_17_8
        refine lv_iconst (v := 0) hx hb dX8_moves_24 (by decide) ?_
        refine kCallVd (wr := []) (va_runV (As := [.int n, .int 0]) (rest := []) ⟨hx, hb, hml, hown, hts⟩ (q_left l D cI cL cB cZ cT _ m0 mH mI mJ mS mD mX mA mB mW mL aM aC mM mQ oV pL lI sW dP sT aT cH iW iH aE mN sZ tS tA tW lS n 0 (by first | with_reducible assumption | ((try simp only [jT_, jP_, jD_, jC_, jB_, jW_, Int32.reduceToInt, Int64.reduceToInt, true_or, or_true, true_and, and_true]) <;> omega)) (by first | with_reducible assumption | ((try simp only [jT_, jP_, jD_, jC_, jB_, jW_, Int32.reduceToInt, Int64.reduceToInt, true_or, or_true, true_and, and_true]) <;> omega)) (by first | with_reducible assumption | ((try simp only [jT_, jP_, jD_, jC_, jB_, jW_, Int32.reduceToInt, Int64.reduceToInt, true_or, or_true, true_and, and_true]) <;> omega))) (cwV 2 hts gX8_moves_X8_left rfl rfl rfl (by decide +kernel) ⟨Nat.le_of_ble_eq_true rfl, Nat.le_of_ble_eq_true rfl⟩) (kPreV hG hP hD [0] rfl (by decide) 0 8 rfl rfl rfl) rfl rfl hl.1 rfl (lv_room (Nat.le_of_ble_eq_true rfl)) dX8_moves_25 ⟨Nat.le_of_ble_eq_true rfl, Nat.le_of_ble_eq_true rfl⟩) hA hP hD hS [0] [] rfl rfl (by decide) (by decide) (fun _ u_r_10 H locs wr_10 hP hD hS => ?_)
        have hP : va_P D vwCl [(m0, .inr (8, [.ref mH, .int u_r_10.1, .long u_r_10.2.1, .int mM, .long u_r_10.2.2.1, .int u_r_10.2.2.2, .int pL, .int lI, .int sW, .int dP, .int sT, .long aT, .int cH, .int iW, .ref mI, .ref mJ, .ref mS, .ref mD, .int iH, .int aE, .int mN, .long sZ, .ref mX, .int tS, .int tA, .int tW, .ref mA, .ref mB, .ref mW, .ref mL, .int lS]))] H := hP
        have hD : va_D A [(m0, .inr (8, [.ref mH, .int u_r_10.1, .long u_r_10.2.1, .int mM, .long u_r_10.2.2.1, .int u_r_10.2.2.2, .int pL, .int lI, .int sW, .int dP, .int sT, .long aT, .int cH, .int iW, .ref mI, .ref mJ, .ref mS, .ref mD, .int iH, .int aE, .int mN, .long sZ, .ref mX, .int tS, .int tA, .int tW, .ref mA, .ref mB, .ref mW, .ref mL, .int lS]))] := hD
        try dsimp only at wr_10
        try simp only [Int32.reduceToInt, Int64.reduceToInt] at wr_10
        obtain ⟨wr_10_0, wr_10_1⟩ := wr_10
        refine lv_goto (tgt := 47) hx hb dX8_moves_28 (by decide) ?_
        refine lv_iconst (v := 0) hx hb dX8_moves_47 (by decide) ?_
        refine kIret (u := (u_r_10.1, u_r_10.2.1, mM, u_r_10.2.2.1, u_r_10.2.2.2)) hx hb hr rfl hlocks hS dX8_moves_48 ?_ (hP.sub [0] rfl) (hD.sub [0] (by decide) rfl)
        try dsimp only
        repeat' (with_reducible apply And.intro)
        all_goals first | with_reducible assumption | ((try simp only [jT_, jP_, jD_, jC_, jB_, jW_, Int32.reduceToInt, Int64.reduceToInt, true_or, or_true, true_and, and_true]) <;> omega)
      · have t_17_8 := c_17_8
        try simp only [kb_eq0, kb_ne0, lg_cmp_lt, lg_cmp_le, lg_cmp_gt, lg_cmp_ge, lg_cmp_eq] at t_17_8
        try simp only [Int32.lt_iff_toInt_lt, Int32.le_iff_toInt_le, ← Int32.toInt_inj, Int64.lt_iff_toInt_lt, Int64.le_iff_toInt_le, ← Int64.toInt_inj, Int32.toInt_toInt64, Int32.reduceToInt, Int64.reduceToInt] at t_17_8
        refine lv_iconst (v := 1) hx hb dX8_moves_20 (by decide) ?_
        refine lv_goto (tgt := 25) hx hb dX8_moves_21 (by decide) ?_
        refine kCallVd (wr := []) (va_runV (As := [.int n, .int 1]) (rest := []) ⟨hx, hb, hml, hown, hts⟩ (q_left l D cI cL cB cZ cT _ m0 mH mI mJ mS mD mX mA mB mW mL aM aC mM mQ oV pL lI sW dP sT aT cH iW iH aE mN sZ tS tA tW lS n 1 (by first | with_reducible assumption | ((try simp only [jT_, jP_, jD_, jC_, jB_, jW_, Int32.reduceToInt, Int64.reduceToInt, true_or, or_true, true_and, and_true]) <;> omega)) (by first | with_reducible assumption | ((try simp only [jT_, jP_, jD_, jC_, jB_, jW_, Int32.reduceToInt, Int64.reduceToInt, true_or, or_true, true_and, and_true]) <;> omega)) (by first | with_reducible assumption | ((try simp only [jT_, jP_, jD_, jC_, jB_, jW_, Int32.reduceToInt, Int64.reduceToInt, true_or, or_true, true_and, and_true]) <;> omega))) (cwV 2 hts gX8_moves_X8_left rfl rfl rfl (by decide +kernel) ⟨Nat.le_of_ble_eq_true rfl, Nat.le_of_ble_eq_true rfl⟩) (kPreV hG hP hD [0] rfl (by decide) 0 8 rfl rfl rfl) rfl rfl hl.1 rfl (lv_room (Nat.le_of_ble_eq_true rfl)) dX8_moves_25 ⟨Nat.le_of_ble_eq_true rfl, Nat.le_of_ble_eq_true rfl⟩) hA hP hD hS [0] [] rfl rfl (by decide) (by decide) (fun _ u_r_11 H locs wr_11 hP hD hS => ?_)
        have hP : va_P D vwCl [(m0, .inr (8, [.ref mH, .int u_r_11.1, .long u_r_11.2.1, .int mM, .long u_r_11.2.2.1, .int u_r_11.2.2.2, .int pL, .int lI, .int sW, .int dP, .int sT, .long aT, .int cH, .int iW, .ref mI, .ref mJ, .ref mS, .ref mD, .int iH, .int aE, .int mN, .long sZ, .ref mX, .int tS, .int tA, .int tW, .ref mA, .ref mB, .ref mW, .ref mL, .int lS]))] H := hP
        have hD : va_D A [(m0, .inr (8, [.ref mH, .int u_r_11.1, .long u_r_11.2.1, .int mM, .long u_r_11.2.2.1, .int u_r_11.2.2.2, .int pL, .int lI, .int sW, .int dP, .int sT, .long aT, .int cH, .int iW, .ref mI, .ref mJ, .ref mS, .ref mD, .int iH, .int aE, .int mN, .long sZ, .ref mX, .int tS, .int tA, .int tW, .ref mA, .ref mB, .ref mW, .ref mL, .int lS]))] := hD
        try dsimp only at wr_11
        try simp only [Int32.reduceToInt, Int64.reduceToInt] at wr_11
        obtain ⟨wr_11_0, wr_11_1⟩ := wr_11
        refine lv_goto (tgt := 47) hx hb dX8_moves_28 (by decide) ?_
        refine lv_iconst (v := 0) hx hb dX8_moves_47 (by decide) ?_
        refine kIret (u := (u_r_11.1, u_r_11.2.1, mM, u_r_11.2.2.1, u_r_11.2.2.2)) hx hb hr rfl hlocks hS dX8_moves_48 ?_ (hP.sub [0] rfl) (hD.sub [0] (by decide) rfl)
        try dsimp only
        repeat' (with_reducible apply And.intro)
        all_goals first | with_reducible assumption | ((try simp only [jT_, jP_, jD_, jC_, jB_, jW_, Int32.reduceToInt, Int64.reduceToInt, true_or, or_true, true_and, and_true]) <;> omega)
set_option maxRecDepth 100000 in
theorem iX8_extract_X8 : ∀ w ∈ wsX80, w ∈ wsX8_extract := fun w h => (goodIn_r (big := wsX8_extract) wsX80 [22, 23, 24, 25, 26, 27, 28, 29, 30, 31, 32, 33, 34, 35, 36, 37, 38, 39, 40, 41, 42, 43, 44, 45, 46, 47, 48, 49, 50, 51, 52] rfl (by decide +kernel) w h).1
set_option maxRecDepth 100000 in
set_option maxHeartbeats 4000000 in
theorem q_extract (l : Launch) (D : va_G) (cI cL cB cZ cT : ClassId) (sz : Nat) (m0 mH mI mJ mS mD mX mA mB mW mL : Nat) (aM : Int32) (aC : Int64) (mM : Int32) (mQ : Int64) (oV pL lI sW dP sT : Int32) (aT : Int64) (cH iW iH aE mN : Int32) (sZ : Int64) (tS tA tW lS : Int32) (fH : Nat → Int32) (had : 0 ≤ aE.toInt ∧ aE.toInt ≤ 511 ∧ (iH.toInt = 0 ∨ aE.toInt ≤ 510)) : kM (S := ((Nat → Int32))) l yX8_extract wsX8_extract ({ frames := 1, cells := 0, slots := 0, locals := 23 }) D (kT cI cL cB cZ cT) [.ref m0] [(m0, .inr (8, [.ref mH, .int aM, .long aC, .int mM, .long mQ, .int oV, .int pL, .int lI, .int sW, .int dP, .int sT, .long aT, .int cH, .int iW, .ref mI, .ref mJ, .ref mS, .ref mD, .int iH, .int aE, .int mN, .long sZ, .ref mX, .int tS, .int tA, .int tW, .ref mA, .ref mB, .ref mW, .ref mL, .int lS])), (mH, .inl (cI, 512, .inl fH))] sz eV (fun _ _ => True) (fun u => [(m0, .inr (8, [.ref mH, .int aM, .long aC, .int mM, .long mQ, .int oV, .int pL, .int lI, .int sW, .int dP, .int sT, .long aT, .int cH, .int iW, .ref mI, .ref mJ, .ref mS, .ref mD, .int iH, .int aE, .int mN, .long sZ, .ref mX, .int tS, .int tA, .int tW, .ref mA, .ref mB, .ref mW, .ref mL, .int lS])), (mH, .inl (cI, 512, .inl u))]) 0 0 := by
  refine kStart (cc := cX8_extract) (maxL := 3) (ret := none) (own := RX8) (by decide) rfl rfl (Nat.le_of_ble_eq_true rfl) ?_
  intro p e s m args below meth c A ls hx hb hr hml hown hts hlocks hnm hsz hA hG hP hD hS hl
  have hK := hG.1
  have hl : lv_has ls 3 [(0, .ref m0)] := hl
  refine lv_aload_n hx hb dX8_extract_0 rfl (lv_at hl 0 rfl) ?_
  refine va_get (D := D) (ci := 8) (v := .int aM) (C := RX8) (T := TX8) (N := 31) hx hb hts iX8_extract_X8 hown hK hP 0 rfl rfl 1 (by decide) (hts (.fieldLink RX8 61 "TapeCalculatorModel" "accMinus" "Z") (List.mem_of_getElem? (i := 1) rfl)) (fun _ h9 => h9) rfl dX8_extract_1 ?_
  refine lv_aload_n hx hb dX8_extract_4 rfl (lv_at hl 0 rfl) ?_
  refine va_get (D := D) (ci := 8) (v := .long aC) (C := RX8) (T := TX8) (N := 31) hx hb hts iX8_extract_X8 hown hK hP 0 rfl rfl 2 (by decide) (hts (.fieldLink RX8 65 "TapeCalculatorModel" "acc" "J") (List.mem_of_getElem? (i := 2) rfl)) (fun _ h9 => h9) rfl dX8_extract_5 ?_
  refine kCallL (wr := [(m0, .inr (8, [.ref mH, .int aM, .long aC, .int mM, .long mQ, .int oV, .int pL, .int lI, .int sW, .int dP, .int sT, .long aT, .int cH, .int iW, .ref mI, .ref mJ, .ref mS, .ref mD, .int iH, .int aE, .int mN, .long sZ, .ref mX, .int tS, .int tA, .int tW, .ref mA, .ref mB, .ref mW, .ref mL, .int lS])), (mH, .inl (cI, 512, .inl fH))]) (va_runS (As := [.int aM, .long aC]) (rest := []) ⟨hx, hb, hml, hown, hts⟩ (q_bits l D cI cL cB cZ cT _ aM aC) (va_cwS 2 hts gX8_extract_X8_bits rfl rfl rfl (by decide +kernel) ⟨Nat.le_of_ble_eq_true rfl, Nat.le_of_ble_eq_true rfl⟩) (kPreS hG hP hD [] rfl (by decide)) rfl rfl hl.1 rfl (lv_room (Nat.le_of_ble_eq_true rfl)) dX8_extract_8 ⟨Nat.le_of_ble_eq_true rfl, Nat.le_of_ble_eq_true rfl⟩) hA hP hD hS [] [0, 1] rfl rfl (by decide) (by decide) (fun r_1 u_r_1 H locs wr_1 hP hD hS => ?_)
  have hP : va_P D vwCl [(m0, .inr (8, [.ref mH, .int aM, .long aC, .int mM, .long mQ, .int oV, .int pL, .int lI, .int sW, .int dP, .int sT, .long aT, .int cH, .int iW, .ref mI, .ref mJ, .ref mS, .ref mD, .int iH, .int aE, .int mN, .long sZ, .ref mX, .int tS, .int tA, .int tW, .ref mA, .ref mB, .ref mW, .ref mL, .int lS])), (mH, .inl (cI, 512, .inl fH))] H := hP
  have hD : va_D A [(m0, .inr (8, [.ref mH, .int aM, .long aC, .int mM, .long mQ, .int oV, .int pL, .int lI, .int sW, .int dP, .int sT, .long aT, .int cH, .int iW, .ref mI, .ref mJ, .ref mS, .ref mD, .int iH, .int aE, .int mN, .long sZ, .ref mX, .int tS, .int tA, .int tW, .ref mA, .ref mB, .ref mW, .ref mL, .int lS])), (mH, .inl (cI, 512, .inl fH))] := hD
  try dsimp only at wr_1
  try simp only [Int32.reduceToInt, Int64.reduceToInt] at wr_1
  refine lv_lstore_n (lv' := [(1, .long r_1), (0, .ref m0)]) hx hb dX8_extract_11 rfl hl (by decide) rfl (fun ls hl => ?_)
  refine lv_aload_n hx hb dX8_extract_12 rfl (lv_at hl 1 rfl) ?_
  refine va_get (D := D) (ci := 8) (v := .int iH) (C := RX8) (T := TX8) (N := 31) hx hb hts iX8_extract_X8 hown hK hP 0 rfl rfl 18 (by decide) (hts (.fieldLink RX8 134 "TapeCalculatorModel" "isWhole" "Z") (List.mem_of_getElem? (i := 3) rfl)) (fun _ h9 => h9) rfl dX8_extract_13 ?_
  refine lv_if_eq (tgt := 40) hx hb dX8_extract_16 (by decide) (fun c_16_1 => ?_) (fun c_16_1 => ?_)
  · have t_16_1 := c_16_1
    try simp only [kb_eq0, kb_ne0, lg_cmp_lt, lg_cmp_le, lg_cmp_gt, lg_cmp_ge, lg_cmp_eq] at t_16_1
    try simp only [Int32.lt_iff_toInt_lt, Int32.le_iff_toInt_le, ← Int32.toInt_inj, Int64.lt_iff_toInt_lt, Int64.le_iff_toInt_le, ← Int64.toInt_inj, Int32.toInt_toInt64, Int32.reduceToInt, Int64.reduceToInt] at t_16_1
    refine lv_aload_n hx hb dX8_extract_40 rfl (lv_at hl 1 rfl) ?_
    refine va_get (D := D) (ci := 8) (v := .ref mH) (C := RX8) (T := TX8) (N := 31) hx hb hts iX8_extract_X8 hown hK hP 0 rfl rfl 0 (by decide) (hts (.fieldLink RX8 7 "TapeCalculatorModel" "half" "[I") (List.mem_of_getElem? (i := 5) rfl)) (fun _ h9 => h9) rfl dX8_extract_41 ?_
    refine lv_aload_n hx hb dX8_extract_44 rfl (lv_at hl 1 rfl) ?_
    refine va_get (D := D) (ci := 8) (v := .int aE) (C := RX8) (T := TX8) (N := 31) hx hb hts iX8_extract_X8 hown hK hP 0 rfl rfl 19 (by decide) (hts (.fieldLink RX8 137 "TapeCalculatorModel" "address" "I") (List.mem_of_getElem? (i := 4) rfl)) (fun _ h9 => h9) rfl dX8_extract_45 ?_
    refine lv_aload_n hx hb dX8_extract_48 rfl (lv_at hl 1 rfl) ?_
    refine va_get (D := D) (ci := 8) (v := .ref mH) (C := RX8) (T := TX8) (N := 31) hx hb hts iX8_extract_X8 hown hK hP 0 rfl rfl 0 (by decide) (hts (.fieldLink RX8 7 "TapeCalculatorModel" "half" "[I") (List.mem_of_getElem? (i := 5) rfl)) (fun _ h9 => h9) rfl dX8_extract_49 ?_
    refine lv_aload_n hx hb dX8_extract_52 rfl (lv_at hl 1 rfl) ?_
    refine va_get (D := D) (ci := 8) (v := .int aE) (C := RX8) (T := TX8) (N := 31) hx hb hts iX8_extract_X8 hown hK hP 0 rfl rfl 19 (by decide) (hts (.fieldLink RX8 137 "TapeCalculatorModel" "address" "I") (List.mem_of_getElem? (i := 4) rfl)) (fun _ h9 => h9) rfl dX8_extract_53 ?_
    refine va_iald hx hb hK hP 1 0 rfl rfl (vp_in_iff.mpr (by omega)) dX8_extract_56 ?_
    refine lv_sipush (v := (-4096)) hx hb dX8_extract_57 (by decide) ?_
    refine lv_iand hx hb dX8_extract_60 ?_
    refine lv_lload_n hx hb dX8_extract_61 rfl (lv_at hl 0 rfl) ?_
    refine lv_bipush (v := 18) hx hb dX8_extract_62 (by decide) ?_
    refine lv_lshr hx hb dX8_extract_64 rfl ?_
    refine lv_ldc2 (v := 4095) hx hb hown (hts (.constantLong RX8 219 (4095)) (List.mem_of_getElem? (i := 6) rfl)) dX8_extract_65 ?_
    refine lv_land hx hb dX8_extract_68 ?_
    refine lv_l2i hx hb dX8_extract_69 rfl ?_
    refine lv_ior hx hb dX8_extract_70 ?_
    refine va_iast hx hb hK hP hD hS 1 0 rfl rfl (vp_in_iff.mpr (by omega)) dX8_extract_71 (fun H locs hP hD hS => ?_)
    have hP : va_P D vwCl [(m0, .inr (8, [.ref mH, .int aM, .long aC, .int mM, .long mQ, .int oV, .int pL, .int lI, .int sW, .int dP, .int sT, .long aT, .int cH, .int iW, .ref mI, .ref mJ, .ref mS, .ref mD, .int iH, .int aE, .int mN, .long sZ, .ref mX, .int tS, .int tA, .int tW, .ref mA, .ref mB, .ref mW, .ref mL, .int lS])), (mH, .inl (cI, 512, .inl (upd fH aE.toNatClampNeg (((fH aE.toNatClampNeg) &&& (-4096)) ||| ((r_1 >>> ((18 : Int32).toInt64 &&& 63)) &&& 4095).toInt32))))] H := hP
    have hD : va_D A [(m0, .inr (8, [.ref mH, .int aM, .long aC, .int mM, .long mQ, .int oV, .int pL, .int lI, .int sW, .int dP, .int sT, .long aT, .int cH, .int iW, .ref mI, .ref mJ, .ref mS, .ref mD, .int iH, .int aE, .int mN, .long sZ, .ref mX, .int tS, .int tA, .int tW, .ref mA, .ref mB, .ref mW, .ref mL, .int lS])), (mH, .inl (cI, 512, .inl (upd fH aE.toNatClampNeg (((fH aE.toNatClampNeg) &&& (-4096)) ||| ((r_1 >>> ((18 : Int32).toInt64 &&& 63)) &&& 4095).toInt32))))] := hD
    refine kVret (u := (upd fH aE.toNatClampNeg (((fH aE.toNatClampNeg) &&& (-4096)) ||| ((r_1 >>> ((18 : Int32).toInt64 &&& 63)) &&& 4095).toInt32))) hx hb hr hlocks hS dX8_extract_72 ?_ (hP.sub [0, 1] rfl) (hD.sub [0, 1] (by decide) rfl)
    exact trivial
  · have t_16_1 := c_16_1
    try simp only [kb_eq0, kb_ne0, lg_cmp_lt, lg_cmp_le, lg_cmp_gt, lg_cmp_ge, lg_cmp_eq] at t_16_1
    try simp only [Int32.lt_iff_toInt_lt, Int32.le_iff_toInt_le, ← Int32.toInt_inj, Int64.lt_iff_toInt_lt, Int64.le_iff_toInt_le, ← Int64.toInt_inj, Int32.toInt_toInt64, Int32.reduceToInt, Int64.reduceToInt] at t_16_1
    refine lv_aload_n hx hb dX8_extract_19 rfl (lv_at hl 1 rfl) ?_
    refine lv_aload_n hx hb dX8_extract_20 rfl (lv_at hl 1 rfl) ?_
    refine va_get (D := D) (ci := 8) (v := .int aE) (C := RX8) (T := TX8) (N := 31) hx hb hts iX8_extract_X8 hown hK hP 0 rfl rfl 19 (by decide) (hts (.fieldLink RX8 137 "TapeCalculatorModel" "address" "I") (List.mem_of_getElem? (i := 4) rfl)) (fun _ h9 => h9) rfl dX8_extract_21 ?_
    refine lv_aload_n hx hb dX8_extract_24 rfl (lv_at hl 1 rfl) ?_
    refine lv_aload_n hx hb dX8_extract_25 rfl (lv_at hl 1 rfl) ?_
    refine va_get (D := D) (ci := 8) (v := .int aE) (C := RX8) (T := TX8) (N := 31) hx hb hts iX8_extract_X8 hown hK hP 0 rfl rfl 19 (by decide) (hts (.fieldLink RX8 137 "TapeCalculatorModel" "address" "I") (List.mem_of_getElem? (i := 4) rfl)) (fun _ h9 => h9) rfl dX8_extract_26 ?_
    refine kCallL (wr := []) (va_runV (As := [.int aE]) (rest := [.int aE, .ref m0]) ⟨hx, hb, hml, hown, hts⟩ (q_wholeAt l D cI cL cB cZ cT _ m0 mH mI mJ mS mD mX mA mB mW mL aM aC mM mQ oV pL lI sW dP sT aT cH iW iH aE mN sZ tS tA tW lS fH aE (vp_in_iff.mpr (by omega)) (k_in1 (by omega))) (cwV 1 hts gX8_extract_X8_wholeAt rfl rfl rfl (by decide +kernel) ⟨Nat.le_of_ble_eq_true rfl, Nat.le_of_ble_eq_true rfl⟩) (kPreV hG hP hD [0, 1] rfl (by decide) 0 8 rfl rfl rfl) rfl rfl hl.1 rfl (lv_room (Nat.le_of_ble_eq_true rfl)) dX8_extract_29 ⟨Nat.le_of_ble_eq_true rfl, Nat.le_of_ble_eq_true rfl⟩) hA hP hD hS [0, 1] [] rfl rfl (by decide) (by decide) (fun r_3 u_r_3 H locs wr_3 hP hD hS => ?_)
    have hP : va_P D vwCl [(m0, .inr (8, [.ref mH, .int aM, .long aC, .int mM, .long mQ, .int oV, .int pL, .int lI, .int sW, .int dP, .int sT, .long aT, .int cH, .int iW, .ref mI, .ref mJ, .ref mS, .ref mD, .int iH, .int aE, .int mN, .long sZ, .ref mX, .int tS, .int tA, .int tW, .ref mA, .ref mB, .ref mW, .ref mL, .int lS])), (mH, .inl (cI, 512, .inl fH))] H := hP
    have hD : va_D A [(m0, .inr (8, [.ref mH, .int aM, .long aC, .int mM, .long mQ, .int oV, .int pL, .int lI, .int sW, .int dP, .int sT, .long aT, .int cH, .int iW, .ref mI, .ref mJ, .ref mS, .ref mD, .int iH, .int aE, .int mN, .long sZ, .ref mX, .int tS, .int tA, .int tW, .ref mA, .ref mB, .ref mW, .ref mL, .int lS])), (mH, .inl (cI, 512, .inl fH))] := hD
    try dsimp only at wr_3
    try simp only [Int32.reduceToInt, Int64.reduceToInt] at wr_3
    refine lv_lload_n hx hb dX8_extract_32 rfl (lv_at hl 0 rfl) ?_
    refine lv_land hx hb dX8_extract_33 ?_
    refine kCallVd (wr := []) (va_runV (As := [.int aE, .long (r_3 &&& r_1)]) (rest := []) ⟨hx, hb, hml, hown, hts⟩ (q_putWhole l D cI cL cB cZ cT _ m0 mH mI mJ mS mD mX mA mB mW mL aM aC mM mQ oV pL lI sW dP sT aT cH iW iH aE mN sZ tS tA tW lS fH aE (r_3 &&& r_1) (vp_in_iff.mpr (by omega)) (k_in1 (by omega))) (cwV 2 hts gX8_extract_X8_putWhole rfl rfl rfl (by decide +kernel) ⟨Nat.le_of_ble_eq_true rfl, Nat.le_of_ble_eq_true rfl⟩) (kPreV hG hP hD [0, 1] rfl (by decide) 0 8 rfl rfl rfl) rfl rfl hl.1 rfl (lv_room (Nat.le_of_ble_eq_true rfl)) dX8_extract_34 ⟨Nat.le_of_ble_eq_true rfl, Nat.le_of_ble_eq_true rfl⟩) hA hP hD hS [0, 1] [] rfl rfl (by decide) (by decide) (fun _ u_r_4 H locs wr_4 hP hD hS => ?_)
    have hP : va_P D vwCl [(m0, .inr (8, [.ref mH, .int aM, .long aC, .int mM, .long mQ, .int oV, .int pL, .int lI, .int sW, .int dP, .int sT, .long aT, .int cH, .int iW, .ref mI, .ref mJ, .ref mS, .ref mD, .int iH, .int aE, .int mN, .long sZ, .ref mX, .int tS, .int tA, .int tW, .ref mA, .ref mB, .ref mW, .ref mL, .int lS])), (mH, .inl (cI, 512, .inl u_r_4))] H := hP
    have hD : va_D A [(m0, .inr (8, [.ref mH, .int aM, .long aC, .int mM, .long mQ, .int oV, .int pL, .int lI, .int sW, .int dP, .int sT, .long aT, .int cH, .int iW, .ref mI, .ref mJ, .ref mS, .ref mD, .int iH, .int aE, .int mN, .long sZ, .ref mX, .int tS, .int tA, .int tW, .ref mA, .ref mB, .ref mW, .ref mL, .int lS])), (mH, .inl (cI, 512, .inl u_r_4))] := hD
    try dsimp only at wr_4
    try simp only [Int32.reduceToInt, Int64.reduceToInt] at wr_4
    refine lv_goto (tgt := 72) hx hb dX8_extract_37 (by decide) ?_
    refine kVret (u := u_r_4) hx hb hr hlocks hS dX8_extract_72 ?_ (hP.sub [0, 1] rfl) (hD.sub [0, 1] (by decide) rfl)
    exact trivial
set_option maxRecDepth 100000 in
theorem iX8_reckons_X8 : ∀ w ∈ wsX80, w ∈ wsX8_reckons := fun w h => (goodIn_r (big := wsX8_reckons) wsX80 [71, 72, 73, 74, 75, 76, 77, 78, 79, 80, 81, 82, 83, 84, 85, 86, 87, 88, 89, 90, 91, 92, 93, 94, 95, 96, 97, 98, 99, 100, 101] rfl (by decide +kernel) w h).1
set_option maxRecDepth 100000 in
set_option maxHeartbeats 4000000 in
theorem q_reckons (l : Launch) (D : va_G) (cI cL cB cZ cT : ClassId) (sz : Nat) (m0 mH mI mJ mS mD mX mA mB mW mL : Nat) (aM : Int32) (aC : Int64) (mM : Int32) (mQ : Int64) (oV pL lI sW dP sT : Int32) (aT : Int64) (cH iW iH aE mN : Int32) (sZ : Int64) (tS tA tW lS : Int32) (fH : Nat → Int32) (a : Int32) (haM : jB_ aM) (hmM : jB_ mM) (hoV : jB_ oV) (hmN : jB_ mN) (hadw : ((5 ≤ a.toInt ∧ a.toInt ≤ 7) ∨ (9 ≤ a.toInt ∧ a.toInt ≤ 18) ∨ a.toInt = 31) → (0 ≤ aE.toInt ∧ aE.toInt ≤ 511 ∧ (iH.toInt = 0 ∨ aE.toInt ≤ 510))) : kM (S := (Int32 × Int64 × Int32 × Int64 × Int32 × Int32 × Int64 × (Nat → Int32))) l yX8_reckons wsX8_reckons ({ frames := 2, cells := 0, slots := 0, locals := 45 }) D (kT cI cL cB cZ cT) [.ref m0, .int a] [(m0, .inr (8, [.ref mH, .int aM, .long aC, .int mM, .long mQ, .int oV, .int pL, .int lI, .int sW, .int dP, .int sT, .long aT, .int cH, .int iW, .ref mI, .ref mJ, .ref mS, .ref mD, .int iH, .int aE, .int mN, .long sZ, .ref mX, .int tS, .int tA, .int tW, .ref mA, .ref mB, .ref mW, .ref mL, .int lS])), (mH, .inl (cI, 512, .inl fH))] sz eI (fun r u => (0 ≤ r.toInt ∧ r.toInt ≤ 6) ∧ jB_ (u.1) ∧ jB_ (u.2.2.1) ∧ jB_ (u.2.2.2.2.1) ∧ jB_ (u.2.2.2.2.2.1)) (fun u => [(m0, .inr (8, [.ref mH, .int u.1, .long u.2.1, .int u.2.2.1, .long u.2.2.2.1, .int u.2.2.2.2.1, .int pL, .int lI, .int sW, .int dP, .int sT, .long aT, .int cH, .int iW, .ref mI, .ref mJ, .ref mS, .ref mD, .int iH, .int aE, .int u.2.2.2.2.2.1, .long u.2.2.2.2.2.2.1, .ref mX, .int tS, .int tA, .int tW, .ref mA, .ref mB, .ref mW, .ref mL, .int lS])), (mH, .inl (cI, 512, .inl u.2.2.2.2.2.2.2))]) 0 0 := by
  refine kStart (cc := cX8_reckons) (maxL := 2) (ret := (some .int)) (own := RX8) (by decide) rfl rfl (Nat.le_of_ble_eq_true rfl) ?_
  intro p e s m args below meth c A ls hx hb hr hml hown hts hlocks hnm hsz hA hG hP hD hS hl
  have hK := hG.1
  have hl : lv_has ls 2 [(0, .ref m0), (1, .int a)] := hl
  have J11 : ∀ (vm : Int32) (vz : Int64), jB_ vm → ∀ (H : Heap) (locs : List Loc), va_P D vwCl [(m0, .inr (8, [.ref mH, .int aM, .long aC, .int mM, .long mQ, .int oV, .int pL, .int lI, .int sW, .int dP, .int sT, .long aT, .int cH, .int iW, .ref mI, .ref mJ, .ref mS, .ref mD, .int iH, .int aE, .int vm, .long vz, .ref mX, .int tS, .int tA, .int tW, .ref mA, .ref mB, .ref mW, .ref mL, .int lS])), (mH, .inl (cI, 512, .inl fH))] H → va_D A [(m0, .inr (8, [.ref mH, .int aM, .long aC, .int mM, .long mQ, .int oV, .int pL, .int lI, .int sW, .int dP, .int sT, .long aT, .int cH, .int iW, .ref mI, .ref mJ, .ref mS, .ref mD, .int iH, .int aE, .int vm, .long vz, .ref mX, .int tS, .int tA, .int tW, .ref mA, .ref mB, .ref mW, .ref mL, .int lS])), (mH, .inl (cI, 512, .inl fH))] → va_S A s.heap H locs → ∀ ls : Array Slot, lv_has ls 2 [(0, .ref m0), (1, .int a)] → W p l e ({ frames := 2, cells := 0, slots := 0, locals := 45 }) s m args below meth c H locs 0 0 (MQ below (kQ (S := (Int32 × Int64 × Int32 × Int64 × Int32 × Int32 × Int64 × (Nat → Int32))) eI (fun r u => (0 ≤ r.toInt ∧ r.toInt ≤ 6) ∧ jB_ (u.1) ∧ jB_ (u.2.2.1) ∧ jB_ (u.2.2.2.2.1) ∧ jB_ (u.2.2.2.2.2.1)) D (fun u => [(m0, .inr (8, [.ref mH, .int u.1, .long u.2.1, .int u.2.2.1, .long u.2.2.2.1, .int u.2.2.2.2.1, .int pL, .int lI, .int sW, .int dP, .int sT, .long aT, .int cH, .int iW, .ref mI, .ref mJ, .ref mS, .ref mD, .int iH, .int aE, .int u.2.2.2.2.2.1, .long u.2.2.2.2.2.2.1, .ref mX, .int tS, .int tA, .int tW, .ref mA, .ref mB, .ref mW, .ref mL, .int lS])), (mH, .inl (cI, 512, .inl u.2.2.2.2.2.2.2))]) A) args s 0 0 A) (F0 m 11 ls []) := by
    intro vm vz hvm H locs hP hD hS ls hl
    refine lv_iload_n hx hb dX8_reckons_11 rfl (lv_at hl 1 rfl) ?_
    rcases ksw_5_19 a with hsw | rfl | rfl | rfl | rfl | rfl | rfl | rfl | rfl | rfl | rfl | rfl | rfl | rfl | rfl | rfl
    · refine lv_tableOut (tgt := 296) hx hb dX8_reckons_12 hsw (by decide) ?_
      refine lv_iconst (v := 0) hx hb dX8_reckons_296 (by decide) ?_
      refine kIret (u := (aM, aC, mM, mQ, oV, vm, vz, fH)) hx hb hr rfl hlocks hS dX8_reckons_297 ?_ (hP.sub [0, 1] rfl) (hD.sub [0, 1] (by decide) rfl)
      try dsimp only
      repeat' (with_reducible apply And.intro)
      all_goals first | with_reducible assumption | ((try simp only [jT_, jP_, jD_, jC_, jB_, jW_, Int32.reduceToInt, Int64.reduceToInt, true_or, or_true, true_and, and_true]) <;> omega)
    · refine lv_tableIn (tgt := 88) (off := 76) hx hb dX8_reckons_12 (by decide) (by decide) (by decide) (by decide) ?_
      refine lv_aload_n hx hb dX8_reckons_88 rfl (lv_at hl 0 rfl) ?_
      refine lv_aload_n hx hb dX8_reckons_89 rfl (lv_at hl 0 rfl) ?_
      refine va_get (D := D) (ci := 8) (v := .int vm) (C := RX8) (T := TX8) (N := 31) hx hb hts iX8_reckons_X8 hown hK hP 0 rfl rfl 20 (by decide) (hts (.fieldLink RX8 142 "TapeCalculatorModel" "minus" "Z") (List.mem_of_getElem? (i := 1) rfl)) (fun _ h9 => h9) rfl dX8_reckons_90 ?_
      refine lv_if_ne (tgt := 100) hx hb dX8_reckons_93 (by decide) (fun c_93_0 => ?_) (fun c_93_0 => ?_)
      · have t_93_0 := c_93_0
        try simp only [kb_eq0, kb_ne0, lg_cmp_lt, lg_cmp_le, lg_cmp_gt, lg_cmp_ge, lg_cmp_eq] at t_93_0
        try simp only [Int32.lt_iff_toInt_lt, Int32.le_iff_toInt_le, ← Int32.toInt_inj, Int64.lt_iff_toInt_lt, Int64.le_iff_toInt_le, ← Int64.toInt_inj, Int32.toInt_toInt64, Int32.reduceToInt, Int64.reduceToInt] at t_93_0
        refine lv_iconst (v := 0) hx hb dX8_reckons_100 (by decide) ?_
        refine lv_aload_n hx hb dX8_reckons_101 rfl (lv_at hl 0 rfl) ?_
        refine va_get (D := D) (ci := 8) (v := .long vz) (C := RX8) (T := TX8) (N := 31) hx hb hts iX8_reckons_X8 hown hK hP 0 rfl rfl 21 (by decide) (hts (.fieldLink RX8 145 "TapeCalculatorModel" "size" "J") (List.mem_of_getElem? (i := 2) rfl)) (fun _ h9 => h9) rfl dX8_reckons_102 ?_
        refine kCallVd (wr := [(mH, .inl (cI, 512, .inl fH))]) (va_runV (As := [.int 0, .long vz]) (rest := []) ⟨hx, hb, hml, hown, hts⟩ (q_add l D cI cL cB cZ cT _ m0 mH mI mJ mS mD mX mA mB mW mL aM aC mM mQ oV pL lI sW dP sT aT cH iW iH aE vm vz tS tA tW lS 0 vz (by first | with_reducible assumption | ((try simp only [jT_, jP_, jD_, jC_, jB_, jW_, Int32.reduceToInt, Int64.reduceToInt, true_or, or_true, true_and, and_true]) <;> omega)) (by first | with_reducible assumption | ((try simp only [jT_, jP_, jD_, jC_, jB_, jW_, Int32.reduceToInt, Int64.reduceToInt, true_or, or_true, true_and, and_true]) <;> omega)) (by first | with_reducible assumption | ((try simp only [jT_, jP_, jD_, jC_, jB_, jW_, Int32.reduceToInt, Int64.reduceToInt, true_or, or_true, true_and, and_true]) <;> omega))) (cwV 2 hts gX8_reckons_X8_add rfl rfl rfl (by decide +kernel) ⟨Nat.le_of_ble_eq_true rfl, Nat.le_of_ble_eq_true rfl⟩) (kPreV hG hP hD [0] rfl (by decide) 0 8 rfl rfl rfl) rfl rfl hl.1 rfl (lv_room (Nat.le_of_ble_eq_true rfl)) dX8_reckons_105 ⟨Nat.le_of_ble_eq_true rfl, Nat.le_of_ble_eq_true rfl⟩) hA hP hD hS [0] [1] rfl rfl (by decide) (by decide) (fun _ u_r_2 H locs wr_2 hP hD hS => ?_)
        have hP : va_P D vwCl [(mH, .inl (cI, 512, .inl fH)), (m0, .inr (8, [.ref mH, .int u_r_2.1, .long u_r_2.2.1, .int mM, .long mQ, .int u_r_2.2.2, .int pL, .int lI, .int sW, .int dP, .int sT, .long aT, .int cH, .int iW, .ref mI, .ref mJ, .ref mS, .ref mD, .int iH, .int aE, .int vm, .long vz, .ref mX, .int tS, .int tA, .int tW, .ref mA, .ref mB, .ref mW, .ref mL, .int lS]))] H := hP
        have hD : va_D A [(mH, .inl (cI, 512, .inl fH)), (m0, .inr (8, [.ref mH, .int u_r_2.1, .long u_r_2.2.1, .int mM, .long mQ, .int u_r_2.2.2, .int pL, .int lI, .int sW, .int dP, .int sT, .long aT, .int cH, .int iW, .ref mI, .ref mJ, .ref mS, .ref mD, .int iH, .int aE, .int vm, .long vz, .ref mX, .int tS, .int tA, .int tW, .ref mA, .ref mB, .ref mW, .ref mL, .int lS]))] := hD
        try dsimp only at wr_2
        try simp only [Int32.reduceToInt, Int64.reduceToInt] at wr_2
        obtain ⟨wr_2_0, wr_2_1⟩ := wr_2
        refine lv_goto (tgt := 296) hx hb dX8_reckons_108 (by decide) ?_
        refine lv_iconst (v := 0) hx hb dX8_reckons_296 (by decide) ?_
        refine kIret (u := (u_r_2.1, u_r_2.2.1, mM, mQ, u_r_2.2.2, vm, vz, fH)) hx hb hr rfl hlocks hS dX8_reckons_297 ?_ (hP.sub [1, 0] rfl) (hD.sub [1, 0] (by decide) rfl)
        try dsimp only
        repeat' (with_reducible apply And.intro)
        all_goals first | with_reducible assumption | ((try simp only [jT_, jP_, jD_, jC_, jB_, jW_, Int32.reduceToInt, Int64.reduceToInt, true_or, or_true, true_and, and_true]) <;> omega)
      · have t_93_0 := c_93_0
        try simp only [kb_eq0, kb_ne0, lg_cmp_lt, lg_cmp_le, lg_cmp_gt, lg_cmp_ge, lg_cmp_eq] at t_93_0
        try simp only [Int32.lt_iff_toInt_lt, Int32.le_iff_toInt_le, ← Int32.toInt_inj, Int64.lt_iff_toInt_lt, Int64.le_iff_toInt_le, ← Int64.toInt_inj, Int32.toInt_toInt64, Int32.reduceToInt, Int64.reduceToInt] at t_93_0
        refine lv_iconst (v := 1) hx hb dX8_reckons_96 (by decide) ?_
        refine lv_goto (tgt := 101) hx hb dX8_reckons_97 (by decide) ?_
        refine lv_aload_n hx hb dX8_reckons_101 rfl (lv_at hl 0 rfl) ?_
        refine va_get (D := D) (ci := 8) (v := .long vz) (C := RX8) (T := TX8) (N := 31) hx hb hts iX8_reckons_X8 hown hK hP 0 rfl rfl 21 (by decide) (hts (.fieldLink RX8 145 "TapeCalculatorModel" "size" "J") (List.mem_of_getElem? (i := 2) rfl)) (fun _ h9 => h9) rfl dX8_reckons_102 ?_
        refine kCallVd (wr := [(mH, .inl (cI, 512, .inl fH))]) (va_runV (As := [.int 1, .long vz]) (rest := []) ⟨hx, hb, hml, hown, hts⟩ (q_add l D cI cL cB cZ cT _ m0 mH mI mJ mS mD mX mA mB mW mL aM aC mM mQ oV pL lI sW dP sT aT cH iW iH aE vm vz tS tA tW lS 1 vz (by first | with_reducible assumption | ((try simp only [jT_, jP_, jD_, jC_, jB_, jW_, Int32.reduceToInt, Int64.reduceToInt, true_or, or_true, true_and, and_true]) <;> omega)) (by first | with_reducible assumption | ((try simp only [jT_, jP_, jD_, jC_, jB_, jW_, Int32.reduceToInt, Int64.reduceToInt, true_or, or_true, true_and, and_true]) <;> omega)) (by first | with_reducible assumption | ((try simp only [jT_, jP_, jD_, jC_, jB_, jW_, Int32.reduceToInt, Int64.reduceToInt, true_or, or_true, true_and, and_true]) <;> omega))) (cwV 2 hts gX8_reckons_X8_add rfl rfl rfl (by decide +kernel) ⟨Nat.le_of_ble_eq_true rfl, Nat.le_of_ble_eq_true rfl⟩) (kPreV hG hP hD [0] rfl (by decide) 0 8 rfl rfl rfl) rfl rfl hl.1 rfl (lv_room (Nat.le_of_ble_eq_true rfl)) dX8_reckons_105 ⟨Nat.le_of_ble_eq_true rfl, Nat.le_of_ble_eq_true rfl⟩) hA hP hD hS [0] [1] rfl rfl (by decide) (by decide) (fun _ u_r_3 H locs wr_3 hP hD hS => ?_)
        have hP : va_P D vwCl [(mH, .inl (cI, 512, .inl fH)), (m0, .inr (8, [.ref mH, .int u_r_3.1, .long u_r_3.2.1, .int mM, .long mQ, .int u_r_3.2.2, .int pL, .int lI, .int sW, .int dP, .int sT, .long aT, .int cH, .int iW, .ref mI, .ref mJ, .ref mS, .ref mD, .int iH, .int aE, .int vm, .long vz, .ref mX, .int tS, .int tA, .int tW, .ref mA, .ref mB, .ref mW, .ref mL, .int lS]))] H := hP
        have hD : va_D A [(mH, .inl (cI, 512, .inl fH)), (m0, .inr (8, [.ref mH, .int u_r_3.1, .long u_r_3.2.1, .int mM, .long mQ, .int u_r_3.2.2, .int pL, .int lI, .int sW, .int dP, .int sT, .long aT, .int cH, .int iW, .ref mI, .ref mJ, .ref mS, .ref mD, .int iH, .int aE, .int vm, .long vz, .ref mX, .int tS, .int tA, .int tW, .ref mA, .ref mB, .ref mW, .ref mL, .int lS]))] := hD
        try dsimp only at wr_3
        try simp only [Int32.reduceToInt, Int64.reduceToInt] at wr_3
        obtain ⟨wr_3_0, wr_3_1⟩ := wr_3
        refine lv_goto (tgt := 296) hx hb dX8_reckons_108 (by decide) ?_
        refine lv_iconst (v := 0) hx hb dX8_reckons_296 (by decide) ?_
        refine kIret (u := (u_r_3.1, u_r_3.2.1, mM, mQ, u_r_3.2.2, vm, vz, fH)) hx hb hr rfl hlocks hS dX8_reckons_297 ?_ (hP.sub [1, 0] rfl) (hD.sub [1, 0] (by decide) rfl)
        try dsimp only
        repeat' (with_reducible apply And.intro)
        all_goals first | with_reducible assumption | ((try simp only [jT_, jP_, jD_, jC_, jB_, jW_, Int32.reduceToInt, Int64.reduceToInt, true_or, or_true, true_and, and_true]) <;> omega)
    · refine lv_tableIn (tgt := 111) (off := 99) hx hb dX8_reckons_12 (by decide) (by decide) (by decide) (by decide) ?_
      refine lv_aload_n hx hb dX8_reckons_111 rfl (lv_at hl 0 rfl) ?_
      refine lv_aload_n hx hb dX8_reckons_112 rfl (lv_at hl 0 rfl) ?_
      refine va_get (D := D) (ci := 8) (v := .long vz) (C := RX8) (T := TX8) (N := 31) hx hb hts iX8_reckons_X8 hown hK hP 0 rfl rfl 21 (by decide) (hts (.fieldLink RX8 145 "TapeCalculatorModel" "size" "J") (List.mem_of_getElem? (i := 2) rfl)) (fun _ h9 => h9) rfl dX8_reckons_113 ?_
      refine va_put (D := D) (ci := 8) (v := .long vz) (ty := .long) (C := RX8) (T := TX8) (N := 31) hx hb hts iX8_reckons_X8 tyX8 tyX8_ok nmX8 hown hK hP hD hS 0 rfl rfl 2 (by decide) (hts (.fieldLink RX8 65 "TapeCalculatorModel" "acc" "J") (List.mem_of_getElem? (i := 3) rfl)) (fun _ h9 => h9) rfl (by decide +kernel) rfl rfl (Nat.le_of_ble_eq_true rfl) dX8_reckons_116 (fun H locs hP hD hS => ?_)
      have hP : va_P D vwCl [(m0, .inr (8, [.ref mH, .int aM, .long vz, .int mM, .long mQ, .int oV, .int pL, .int lI, .int sW, .int dP, .int sT, .long aT, .int cH, .int iW, .ref mI, .ref mJ, .ref mS, .ref mD, .int iH, .int aE, .int vm, .long vz, .ref mX, .int tS, .int tA, .int tW, .ref mA, .ref mB, .ref mW, .ref mL, .int lS])), (mH, .inl (cI, 512, .inl fH))] H := hP
      have hD : va_D A [(m0, .inr (8, [.ref mH, .int aM, .long vz, .int mM, .long mQ, .int oV, .int pL, .int lI, .int sW, .int dP, .int sT, .long aT, .int cH, .int iW, .ref mI, .ref mJ, .ref mS, .ref mD, .int iH, .int aE, .int vm, .long vz, .ref mX, .int tS, .int tA, .int tW, .ref mA, .ref mB, .ref mW, .ref mL, .int lS])), (mH, .inl (cI, 512, .inl fH))] := hD
      refine lv_aload_n hx hb dX8_reckons_119 rfl (lv_at hl 0 rfl) ?_
      refine lv_aload_n hx hb dX8_reckons_120 rfl (lv_at hl 0 rfl) ?_
      refine va_get (D := D) (ci := 8) (v := .int vm) (C := RX8) (T := TX8) (N := 31) hx hb hts iX8_reckons_X8 hown hK hP 0 rfl rfl 20 (by decide) (hts (.fieldLink RX8 142 "TapeCalculatorModel" "minus" "Z") (List.mem_of_getElem? (i := 1) rfl)) (fun _ h9 => h9) rfl dX8_reckons_121 ?_
      refine lv_if_ne (tgt := 131) hx hb dX8_reckons_124 (by decide) (fun c_124_3 => ?_) (fun c_124_3 => ?_)
      · have t_124_3 := c_124_3
        try simp only [kb_eq0, kb_ne0, lg_cmp_lt, lg_cmp_le, lg_cmp_gt, lg_cmp_ge, lg_cmp_eq] at t_124_3
        try simp only [Int32.lt_iff_toInt_lt, Int32.le_iff_toInt_le, ← Int32.toInt_inj, Int64.lt_iff_toInt_lt, Int64.le_iff_toInt_le, ← Int64.toInt_inj, Int32.toInt_toInt64, Int32.reduceToInt, Int64.reduceToInt] at t_124_3
        refine lv_iconst (v := 0) hx hb dX8_reckons_131 (by decide) ?_
        refine va_put (D := D) (ci := 8) (v := .int 0) (ty := .boolean) (C := RX8) (T := TX8) (N := 31) hx hb hts iX8_reckons_X8 tyX8 tyX8_ok nmX8 hown hK hP hD hS 0 rfl rfl 1 (by decide) (hts (.fieldLink RX8 61 "TapeCalculatorModel" "accMinus" "Z") (List.mem_of_getElem? (i := 4) rfl)) (fun _ h9 => h9) rfl (by decide +kernel) rfl rfl (Nat.le_of_ble_eq_true rfl) dX8_reckons_132 (fun H locs hP hD hS => ?_)
        have hP : va_P D vwCl [(m0, .inr (8, [.ref mH, .int 0, .long vz, .int mM, .long mQ, .int oV, .int pL, .int lI, .int sW, .int dP, .int sT, .long aT, .int cH, .int iW, .ref mI, .ref mJ, .ref mS, .ref mD, .int iH, .int aE, .int vm, .long vz, .ref mX, .int tS, .int tA, .int tW, .ref mA, .ref mB, .ref mW, .ref mL, .int lS])), (mH, .inl (cI, 512, .inl fH))] H := hP
        have hD : va_D A [(m0, .inr (8, [.ref mH, .int 0, .long vz, .int mM, .long mQ, .int oV, .int pL, .int lI, .int sW, .int dP, .int sT, .long aT, .int cH, .int iW, .ref mI, .ref mJ, .ref mS, .ref mD, .int iH, .int aE, .int vm, .long vz, .ref mX, .int tS, .int tA, .int tW, .ref mA, .ref mB, .ref mW, .ref mL, .int lS])), (mH, .inl (cI, 512, .inl fH))] := hD
        refine lv_goto (tgt := 296) hx hb dX8_reckons_135 (by decide) ?_
        refine lv_iconst (v := 0) hx hb dX8_reckons_296 (by decide) ?_
        refine kIret (u := (0, vz, mM, mQ, oV, vm, vz, fH)) hx hb hr rfl hlocks hS dX8_reckons_297 ?_ (hP.sub [0, 1] rfl) (hD.sub [0, 1] (by decide) rfl)
        try dsimp only
        repeat' (with_reducible apply And.intro)
        all_goals first | with_reducible assumption | ((try simp only [jT_, jP_, jD_, jC_, jB_, jW_, Int32.reduceToInt, Int64.reduceToInt, true_or, or_true, true_and, and_true]) <;> omega)
      · have t_124_3 := c_124_3
        try simp only [kb_eq0, kb_ne0, lg_cmp_lt, lg_cmp_le, lg_cmp_gt, lg_cmp_ge, lg_cmp_eq] at t_124_3
        try simp only [Int32.lt_iff_toInt_lt, Int32.le_iff_toInt_le, ← Int32.toInt_inj, Int64.lt_iff_toInt_lt, Int64.le_iff_toInt_le, ← Int64.toInt_inj, Int32.toInt_toInt64, Int32.reduceToInt, Int64.reduceToInt] at t_124_3
        refine lv_iconst (v := 1) hx hb dX8_reckons_127 (by decide) ?_
        refine lv_goto (tgt := 132) hx hb dX8_reckons_128 (by decide) ?_
        refine va_put (D := D) (ci := 8) (v := .int 1) (ty := .boolean) (C := RX8) (T := TX8) (N := 31) hx hb hts iX8_reckons_X8 tyX8 tyX8_ok nmX8 hown hK hP hD hS 0 rfl rfl 1 (by decide) (hts (.fieldLink RX8 61 "TapeCalculatorModel" "accMinus" "Z") (List.mem_of_getElem? (i := 4) rfl)) (fun _ h9 => h9) rfl (by decide +kernel) rfl rfl (Nat.le_of_ble_eq_true rfl) dX8_reckons_132 (fun H locs hP hD hS => ?_)
        have hP : va_P D vwCl [(m0, .inr (8, [.ref mH, .int 1, .long vz, .int mM, .long mQ, .int oV, .int pL, .int lI, .int sW, .int dP, .int sT, .long aT, .int cH, .int iW, .ref mI, .ref mJ, .ref mS, .ref mD, .int iH, .int aE, .int vm, .long vz, .ref mX, .int tS, .int tA, .int tW, .ref mA, .ref mB, .ref mW, .ref mL, .int lS])), (mH, .inl (cI, 512, .inl fH))] H := hP
        have hD : va_D A [(m0, .inr (8, [.ref mH, .int 1, .long vz, .int mM, .long mQ, .int oV, .int pL, .int lI, .int sW, .int dP, .int sT, .long aT, .int cH, .int iW, .ref mI, .ref mJ, .ref mS, .ref mD, .int iH, .int aE, .int vm, .long vz, .ref mX, .int tS, .int tA, .int tW, .ref mA, .ref mB, .ref mW, .ref mL, .int lS])), (mH, .inl (cI, 512, .inl fH))] := hD
        refine lv_goto (tgt := 296) hx hb dX8_reckons_135 (by decide) ?_
        refine lv_iconst (v := 0) hx hb dX8_reckons_296 (by decide) ?_
        refine kIret (u := (1, vz, mM, mQ, oV, vm, vz, fH)) hx hb hr rfl hlocks hS dX8_reckons_297 ?_ (hP.sub [0, 1] rfl) (hD.sub [0, 1] (by decide) rfl)
        try dsimp only
        repeat' (with_reducible apply And.intro)
        all_goals first | with_reducible assumption | ((try simp only [jT_, jP_, jD_, jC_, jB_, jW_, Int32.reduceToInt, Int64.reduceToInt, true_or, or_true, true_and, and_true]) <;> omega)
    · refine lv_tableIn (tgt := 138) (off := 126) hx hb dX8_reckons_12 (by decide) (by decide) (by decide) (by decide) ?_
      refine lv_aload_n hx hb dX8_reckons_138 rfl (lv_at hl 0 rfl) ?_
      refine lv_iconst (v := 1) hx hb dX8_reckons_139 (by decide) ?_
      refine lv_aload_n hx hb dX8_reckons_140 rfl (lv_at hl 0 rfl) ?_
      refine va_get (D := D) (ci := 8) (v := .long vz) (C := RX8) (T := TX8) (N := 31) hx hb hts iX8_reckons_X8 hown hK hP 0 rfl rfl 21 (by decide) (hts (.fieldLink RX8 145 "TapeCalculatorModel" "size" "J") (List.mem_of_getElem? (i := 2) rfl)) (fun _ h9 => h9) rfl dX8_reckons_141 ?_
      refine kCallVd (wr := [(mH, .inl (cI, 512, .inl fH))]) (va_runV (As := [.int 1, .long vz]) (rest := []) ⟨hx, hb, hml, hown, hts⟩ (q_add l D cI cL cB cZ cT _ m0 mH mI mJ mS mD mX mA mB mW mL aM aC mM mQ oV pL lI sW dP sT aT cH iW iH aE vm vz tS tA tW lS 1 vz (by first | with_reducible assumption | ((try simp only [jT_, jP_, jD_, jC_, jB_, jW_, Int32.reduceToInt, Int64.reduceToInt, true_or, or_true, true_and, and_true]) <;> omega)) (by first | with_reducible assumption | ((try simp only [jT_, jP_, jD_, jC_, jB_, jW_, Int32.reduceToInt, Int64.reduceToInt, true_or, or_true, true_and, and_true]) <;> omega)) (by first | with_reducible assumption | ((try simp only [jT_, jP_, jD_, jC_, jB_, jW_, Int32.reduceToInt, Int64.reduceToInt, true_or, or_true, true_and, and_true]) <;> omega))) (cwV 2 hts gX8_reckons_X8_add rfl rfl rfl (by decide +kernel) ⟨Nat.le_of_ble_eq_true rfl, Nat.le_of_ble_eq_true rfl⟩) (kPreV hG hP hD [0] rfl (by decide) 0 8 rfl rfl rfl) rfl rfl hl.1 rfl (lv_room (Nat.le_of_ble_eq_true rfl)) dX8_reckons_144 ⟨Nat.le_of_ble_eq_true rfl, Nat.le_of_ble_eq_true rfl⟩) hA hP hD hS [0] [1] rfl rfl (by decide) (by decide) (fun _ u_r_5 H locs wr_5 hP hD hS => ?_)
      have hP : va_P D vwCl [(mH, .inl (cI, 512, .inl fH)), (m0, .inr (8, [.ref mH, .int u_r_5.1, .long u_r_5.2.1, .int mM, .long mQ, .int u_r_5.2.2, .int pL, .int lI, .int sW, .int dP, .int sT, .long aT, .int cH, .int iW, .ref mI, .ref mJ, .ref mS, .ref mD, .int iH, .int aE, .int vm, .long vz, .ref mX, .int tS, .int tA, .int tW, .ref mA, .ref mB, .ref mW, .ref mL, .int lS]))] H := hP
      have hD : va_D A [(mH, .inl (cI, 512, .inl fH)), (m0, .inr (8, [.ref mH, .int u_r_5.1, .long u_r_5.2.1, .int mM, .long mQ, .int u_r_5.2.2, .int pL, .int lI, .int sW, .int dP, .int sT, .long aT, .int cH, .int iW, .ref mI, .ref mJ, .ref mS, .ref mD, .int iH, .int aE, .int vm, .long vz, .ref mX, .int tS, .int tA, .int tW, .ref mA, .ref mB, .ref mW, .ref mL, .int lS]))] := hD
      try dsimp only at wr_5
      try simp only [Int32.reduceToInt, Int64.reduceToInt] at wr_5
      obtain ⟨wr_5_0, wr_5_1⟩ := wr_5
      refine lv_goto (tgt := 296) hx hb dX8_reckons_147 (by decide) ?_
      refine lv_iconst (v := 0) hx hb dX8_reckons_296 (by decide) ?_
      refine kIret (u := (u_r_5.1, u_r_5.2.1, mM, mQ, u_r_5.2.2, vm, vz, fH)) hx hb hr rfl hlocks hS dX8_reckons_297 ?_ (hP.sub [1, 0] rfl) (hD.sub [1, 0] (by decide) rfl)
      try dsimp only
      repeat' (with_reducible apply And.intro)
      all_goals first | with_reducible assumption | ((try simp only [jT_, jP_, jD_, jC_, jB_, jW_, Int32.reduceToInt, Int64.reduceToInt, true_or, or_true, true_and, and_true]) <;> omega)
    · refine lv_tableIn (tgt := 296) (off := 284) hx hb dX8_reckons_12 (by decide) (by decide) (by decide) (by decide) ?_
      refine lv_iconst (v := 0) hx hb dX8_reckons_296 (by decide) ?_
      refine kIret (u := (aM, aC, mM, mQ, oV, vm, vz, fH)) hx hb hr rfl hlocks hS dX8_reckons_297 ?_ (hP.sub [0, 1] rfl) (hD.sub [0, 1] (by decide) rfl)
      try dsimp only
      repeat' (with_reducible apply And.intro)
      all_goals first | with_reducible assumption | ((try simp only [jT_, jP_, jD_, jC_, jB_, jW_, Int32.reduceToInt, Int64.reduceToInt, true_or, or_true, true_and, and_true]) <;> omega)
    · refine lv_tableIn (tgt := 150) (off := 138) hx hb dX8_reckons_12 (by decide) (by decide) (by decide) (by decide) ?_
      refine lv_aload_n hx hb dX8_reckons_150 rfl (lv_at hl 0 rfl) ?_
      refine lv_aload_n hx hb dX8_reckons_151 rfl (lv_at hl 0 rfl) ?_
      refine va_get (D := D) (ci := 8) (v := .int vm) (C := RX8) (T := TX8) (N := 31) hx hb hts iX8_reckons_X8 hown hK hP 0 rfl rfl 20 (by decide) (hts (.fieldLink RX8 142 "TapeCalculatorModel" "minus" "Z") (List.mem_of_getElem? (i := 1) rfl)) (fun _ h9 => h9) rfl dX8_reckons_152 ?_
      refine lv_aload_n hx hb dX8_reckons_155 rfl (lv_at hl 0 rfl) ?_
      refine va_get (D := D) (ci := 8) (v := .long vz) (C := RX8) (T := TX8) (N := 31) hx hb hts iX8_reckons_X8 hown hK hP 0 rfl rfl 21 (by decide) (hts (.fieldLink RX8 145 "TapeCalculatorModel" "size" "J") (List.mem_of_getElem? (i := 2) rfl)) (fun _ h9 => h9) rfl dX8_reckons_156 ?_
      refine kCallVd (wr := [(mH, .inl (cI, 512, .inl fH))]) (va_runV (As := [.int vm, .long vz]) (rest := []) ⟨hx, hb, hml, hown, hts⟩ (q_add l D cI cL cB cZ cT _ m0 mH mI mJ mS mD mX mA mB mW mL aM aC mM mQ oV pL lI sW dP sT aT cH iW iH aE vm vz tS tA tW lS vm vz (by first | with_reducible assumption | ((try simp only [jT_, jP_, jD_, jC_, jB_, jW_, Int32.reduceToInt, Int64.reduceToInt, true_or, or_true, true_and, and_true]) <;> omega)) (by first | with_reducible assumption | ((try simp only [jT_, jP_, jD_, jC_, jB_, jW_, Int32.reduceToInt, Int64.reduceToInt, true_or, or_true, true_and, and_true]) <;> omega)) (by first | with_reducible assumption | ((try simp only [jT_, jP_, jD_, jC_, jB_, jW_, Int32.reduceToInt, Int64.reduceToInt, true_or, or_true, true_and, and_true]) <;> omega))) (cwV 2 hts gX8_reckons_X8_add rfl rfl rfl (by decide +kernel) ⟨Nat.le_of_ble_eq_true rfl, Nat.le_of_ble_eq_true rfl⟩) (kPreV hG hP hD [0] rfl (by decide) 0 8 rfl rfl rfl) rfl rfl hl.1 rfl (lv_room (Nat.le_of_ble_eq_true rfl)) dX8_reckons_159 ⟨Nat.le_of_ble_eq_true rfl, Nat.le_of_ble_eq_true rfl⟩) hA hP hD hS [0] [1] rfl rfl (by decide) (by decide) (fun _ u_r_6 H locs wr_6 hP hD hS => ?_)
      have hP : va_P D vwCl [(mH, .inl (cI, 512, .inl fH)), (m0, .inr (8, [.ref mH, .int u_r_6.1, .long u_r_6.2.1, .int mM, .long mQ, .int u_r_6.2.2, .int pL, .int lI, .int sW, .int dP, .int sT, .long aT, .int cH, .int iW, .ref mI, .ref mJ, .ref mS, .ref mD, .int iH, .int aE, .int vm, .long vz, .ref mX, .int tS, .int tA, .int tW, .ref mA, .ref mB, .ref mW, .ref mL, .int lS]))] H := hP
      have hD : va_D A [(mH, .inl (cI, 512, .inl fH)), (m0, .inr (8, [.ref mH, .int u_r_6.1, .long u_r_6.2.1, .int mM, .long mQ, .int u_r_6.2.2, .int pL, .int lI, .int sW, .int dP, .int sT, .long aT, .int cH, .int iW, .ref mI, .ref mJ, .ref mS, .ref mD, .int iH, .int aE, .int vm, .long vz, .ref mX, .int tS, .int tA, .int tW, .ref mA, .ref mB, .ref mW, .ref mL, .int lS]))] := hD
      try dsimp only at wr_6
      try simp only [Int32.reduceToInt, Int64.reduceToInt] at wr_6
      obtain ⟨wr_6_0, wr_6_1⟩ := wr_6
      refine lv_goto (tgt := 296) hx hb dX8_reckons_162 (by decide) ?_
      refine lv_iconst (v := 0) hx hb dX8_reckons_296 (by decide) ?_
      refine kIret (u := (u_r_6.1, u_r_6.2.1, mM, mQ, u_r_6.2.2, vm, vz, fH)) hx hb hr rfl hlocks hS dX8_reckons_297 ?_ (hP.sub [1, 0] rfl) (hD.sub [1, 0] (by decide) rfl)
      try dsimp only
      repeat' (with_reducible apply And.intro)
      all_goals first | with_reducible assumption | ((try simp only [jT_, jP_, jD_, jC_, jB_, jW_, Int32.reduceToInt, Int64.reduceToInt, true_or, or_true, true_and, and_true]) <;> omega)
    · refine lv_tableIn (tgt := 165) (off := 153) hx hb dX8_reckons_12 (by decide) (by decide) (by decide) (by decide) ?_
      refine lv_aload_n hx hb dX8_reckons_165 rfl (lv_at hl 0 rfl) ?_
      refine lv_aload_n hx hb dX8_reckons_166 rfl (lv_at hl 0 rfl) ?_
      refine va_get (D := D) (ci := 8) (v := .long vz) (C := RX8) (T := TX8) (N := 31) hx hb hts iX8_reckons_X8 hown hK hP 0 rfl rfl 21 (by decide) (hts (.fieldLink RX8 145 "TapeCalculatorModel" "size" "J") (List.mem_of_getElem? (i := 2) rfl)) (fun _ h9 => h9) rfl dX8_reckons_167 ?_
      refine va_put (D := D) (ci := 8) (v := .long vz) (ty := .long) (C := RX8) (T := TX8) (N := 31) hx hb hts iX8_reckons_X8 tyX8 tyX8_ok nmX8 hown hK hP hD hS 0 rfl rfl 2 (by decide) (hts (.fieldLink RX8 65 "TapeCalculatorModel" "acc" "J") (List.mem_of_getElem? (i := 3) rfl)) (fun _ h9 => h9) rfl (by decide +kernel) rfl rfl (Nat.le_of_ble_eq_true rfl) dX8_reckons_170 (fun H locs hP hD hS => ?_)
      have hP : va_P D vwCl [(m0, .inr (8, [.ref mH, .int aM, .long vz, .int mM, .long mQ, .int oV, .int pL, .int lI, .int sW, .int dP, .int sT, .long aT, .int cH, .int iW, .ref mI, .ref mJ, .ref mS, .ref mD, .int iH, .int aE, .int vm, .long vz, .ref mX, .int tS, .int tA, .int tW, .ref mA, .ref mB, .ref mW, .ref mL, .int lS])), (mH, .inl (cI, 512, .inl fH))] H := hP
      have hD : va_D A [(m0, .inr (8, [.ref mH, .int aM, .long vz, .int mM, .long mQ, .int oV, .int pL, .int lI, .int sW, .int dP, .int sT, .long aT, .int cH, .int iW, .ref mI, .ref mJ, .ref mS, .ref mD, .int iH, .int aE, .int vm, .long vz, .ref mX, .int tS, .int tA, .int tW, .ref mA, .ref mB, .ref mW, .ref mL, .int lS])), (mH, .inl (cI, 512, .inl fH))] := hD
      refine lv_aload_n hx hb dX8_reckons_173 rfl (lv_at hl 0 rfl) ?_
      refine lv_aload_n hx hb dX8_reckons_174 rfl (lv_at hl 0 rfl) ?_
      refine va_get (D := D) (ci := 8) (v := .int vm) (C := RX8) (T := TX8) (N := 31) hx hb hts iX8_reckons_X8 hown hK hP 0 rfl rfl 20 (by decide) (hts (.fieldLink RX8 142 "TapeCalculatorModel" "minus" "Z") (List.mem_of_getElem? (i := 1) rfl)) (fun _ h9 => h9) rfl dX8_reckons_175 ?_
      refine va_put (D := D) (ci := 8) (v := .int vm) (ty := .boolean) (C := RX8) (T := TX8) (N := 31) hx hb hts iX8_reckons_X8 tyX8 tyX8_ok nmX8 hown hK hP hD hS 0 rfl rfl 1 (by decide) (hts (.fieldLink RX8 61 "TapeCalculatorModel" "accMinus" "Z") (List.mem_of_getElem? (i := 4) rfl)) (fun _ h9 => h9) rfl (by decide +kernel) (kz_n (k_b (by first | assumption | omega))) (kz_f (k_b (by first | assumption | omega))) (Nat.le_of_ble_eq_true rfl) dX8_reckons_178 (fun H locs hP hD hS => ?_)
      have hP : va_P D vwCl [(m0, .inr (8, [.ref mH, .int vm, .long vz, .int mM, .long mQ, .int oV, .int pL, .int lI, .int sW, .int dP, .int sT, .long aT, .int cH, .int iW, .ref mI, .ref mJ, .ref mS, .ref mD, .int iH, .int aE, .int vm, .long vz, .ref mX, .int tS, .int tA, .int tW, .ref mA, .ref mB, .ref mW, .ref mL, .int lS])), (mH, .inl (cI, 512, .inl fH))] H := hP
      have hD : va_D A [(m0, .inr (8, [.ref mH, .int vm, .long vz, .int mM, .long mQ, .int oV, .int pL, .int lI, .int sW, .int dP, .int sT, .long aT, .int cH, .int iW, .ref mI, .ref mJ, .ref mS, .ref mD, .int iH, .int aE, .int vm, .long vz, .ref mX, .int tS, .int tA, .int tW, .ref mA, .ref mB, .ref mW, .ref mL, .int lS])), (mH, .inl (cI, 512, .inl fH))] := hD
      refine lv_goto (tgt := 296) hx hb dX8_reckons_181 (by decide) ?_
      refine lv_iconst (v := 0) hx hb dX8_reckons_296 (by decide) ?_
      refine kIret (u := (vm, vz, mM, mQ, oV, vm, vz, fH)) hx hb hr rfl hlocks hS dX8_reckons_297 ?_ (hP.sub [0, 1] rfl) (hD.sub [0, 1] (by decide) rfl)
      try dsimp only
      repeat' (with_reducible apply And.intro)
      all_goals first | with_reducible assumption | ((try simp only [jT_, jP_, jD_, jC_, jB_, jW_, Int32.reduceToInt, Int64.reduceToInt, true_or, or_true, true_and, and_true]) <;> omega)
    · refine lv_tableIn (tgt := 184) (off := 172) hx hb dX8_reckons_12 (by decide) (by decide) (by decide) (by decide) ?_
      refine lv_aload_n hx hb dX8_reckons_184 rfl (lv_at hl 0 rfl) ?_
      refine lv_iconst (v := 0) hx hb dX8_reckons_185 (by decide) ?_
      refine lv_aload_n hx hb dX8_reckons_186 rfl (lv_at hl 0 rfl) ?_
      refine va_get (D := D) (ci := 8) (v := .long vz) (C := RX8) (T := TX8) (N := 31) hx hb hts iX8_reckons_X8 hown hK hP 0 rfl rfl 21 (by decide) (hts (.fieldLink RX8 145 "TapeCalculatorModel" "size" "J") (List.mem_of_getElem? (i := 2) rfl)) (fun _ h9 => h9) rfl dX8_reckons_187 ?_
      refine kCallVd (wr := [(mH, .inl (cI, 512, .inl fH))]) (va_runV (As := [.int 0, .long vz]) (rest := []) ⟨hx, hb, hml, hown, hts⟩ (q_add l D cI cL cB cZ cT _ m0 mH mI mJ mS mD mX mA mB mW mL aM aC mM mQ oV pL lI sW dP sT aT cH iW iH aE vm vz tS tA tW lS 0 vz (by first | with_reducible assumption | ((try simp only [jT_, jP_, jD_, jC_, jB_, jW_, Int32.reduceToInt, Int64.reduceToInt, true_or, or_true, true_and, and_true]) <;> omega)) (by first | with_reducible assumption | ((try simp only [jT_, jP_, jD_, jC_, jB_, jW_, Int32.reduceToInt, Int64.reduceToInt, true_or, or_true, true_and, and_true]) <;> omega)) (by first | with_reducible assumption | ((try simp only [jT_, jP_, jD_, jC_, jB_, jW_, Int32.reduceToInt, Int64.reduceToInt, true_or, or_true, true_and, and_true]) <;> omega))) (cwV 2 hts gX8_reckons_X8_add rfl rfl rfl (by decide +kernel) ⟨Nat.le_of_ble_eq_true rfl, Nat.le_of_ble_eq_true rfl⟩) (kPreV hG hP hD [0] rfl (by decide) 0 8 rfl rfl rfl) rfl rfl hl.1 rfl (lv_room (Nat.le_of_ble_eq_true rfl)) dX8_reckons_190 ⟨Nat.le_of_ble_eq_true rfl, Nat.le_of_ble_eq_true rfl⟩) hA hP hD hS [0] [1] rfl rfl (by decide) (by decide) (fun _ u_r_7 H locs wr_7 hP hD hS => ?_)
      have hP : va_P D vwCl [(mH, .inl (cI, 512, .inl fH)), (m0, .inr (8, [.ref mH, .int u_r_7.1, .long u_r_7.2.1, .int mM, .long mQ, .int u_r_7.2.2, .int pL, .int lI, .int sW, .int dP, .int sT, .long aT, .int cH, .int iW, .ref mI, .ref mJ, .ref mS, .ref mD, .int iH, .int aE, .int vm, .long vz, .ref mX, .int tS, .int tA, .int tW, .ref mA, .ref mB, .ref mW, .ref mL, .int lS]))] H := hP
      have hD : va_D A [(mH, .inl (cI, 512, .inl fH)), (m0, .inr (8, [.ref mH, .int u_r_7.1, .long u_r_7.2.1, .int mM, .long mQ, .int u_r_7.2.2, .int pL, .int lI, .int sW, .int dP, .int sT, .long aT, .int cH, .int iW, .ref mI, .ref mJ, .ref mS, .ref mD, .int iH, .int aE, .int vm, .long vz, .ref mX, .int tS, .int tA, .int tW, .ref mA, .ref mB, .ref mW, .ref mL, .int lS]))] := hD
      try dsimp only at wr_7
      try simp only [Int32.reduceToInt, Int64.reduceToInt] at wr_7
      obtain ⟨wr_7_0, wr_7_1⟩ := wr_7
      refine lv_goto (tgt := 296) hx hb dX8_reckons_193 (by decide) ?_
      refine lv_iconst (v := 0) hx hb dX8_reckons_296 (by decide) ?_
      refine kIret (u := (u_r_7.1, u_r_7.2.1, mM, mQ, u_r_7.2.2, vm, vz, fH)) hx hb hr rfl hlocks hS dX8_reckons_297 ?_ (hP.sub [1, 0] rfl) (hD.sub [1, 0] (by decide) rfl)
      try dsimp only
      repeat' (with_reducible apply And.intro)
      all_goals first | with_reducible assumption | ((try simp only [jT_, jP_, jD_, jC_, jB_, jW_, Int32.reduceToInt, Int64.reduceToInt, true_or, or_true, true_and, and_true]) <;> omega)
    · refine lv_tableIn (tgt := 196) (off := 184) hx hb dX8_reckons_12 (by decide) (by decide) (by decide) (by decide) ?_
      refine lv_aload_n hx hb dX8_reckons_196 rfl (lv_at hl 0 rfl) ?_
      refine lv_aload_n hx hb dX8_reckons_197 rfl (lv_at hl 0 rfl) ?_
      refine va_get (D := D) (ci := 8) (v := .int aM) (C := RX8) (T := TX8) (N := 31) hx hb hts iX8_reckons_X8 hown hK hP 0 rfl rfl 1 (by decide) (hts (.fieldLink RX8 61 "TapeCalculatorModel" "accMinus" "Z") (List.mem_of_getElem? (i := 4) rfl)) (fun _ h9 => h9) rfl dX8_reckons_198 ?_
      refine lv_aload_n hx hb dX8_reckons_201 rfl (lv_at hl 0 rfl) ?_
      refine va_get (D := D) (ci := 8) (v := .long aC) (C := RX8) (T := TX8) (N := 31) hx hb hts iX8_reckons_X8 hown hK hP 0 rfl rfl 2 (by decide) (hts (.fieldLink RX8 65 "TapeCalculatorModel" "acc" "J") (List.mem_of_getElem? (i := 3) rfl)) (fun _ h9 => h9) rfl dX8_reckons_202 ?_
      refine kCallL (wr := [(m0, .inr (8, [.ref mH, .int aM, .long aC, .int mM, .long mQ, .int oV, .int pL, .int lI, .int sW, .int dP, .int sT, .long aT, .int cH, .int iW, .ref mI, .ref mJ, .ref mS, .ref mD, .int iH, .int aE, .int vm, .long vz, .ref mX, .int tS, .int tA, .int tW, .ref mA, .ref mB, .ref mW, .ref mL, .int lS])), (mH, .inl (cI, 512, .inl fH))]) (va_runS (As := [.int aM, .long aC]) (rest := [.ref m0]) ⟨hx, hb, hml, hown, hts⟩ (q_bits l D cI cL cB cZ cT _ aM aC) (va_cwS 2 hts gX8_reckons_X8_bits rfl rfl rfl (by decide +kernel) ⟨Nat.le_of_ble_eq_true rfl, Nat.le_of_ble_eq_true rfl⟩) (kPreS hG hP hD [] rfl (by decide)) rfl rfl hl.1 rfl (lv_room (Nat.le_of_ble_eq_true rfl)) dX8_reckons_205 ⟨Nat.le_of_ble_eq_true rfl, Nat.le_of_ble_eq_true rfl⟩) hA hP hD hS [] [0, 1] rfl rfl (by decide) (by decide) (fun r_8 u_r_8 H locs wr_8 hP hD hS => ?_)
      have hP : va_P D vwCl [(m0, .inr (8, [.ref mH, .int aM, .long aC, .int mM, .long mQ, .int oV, .int pL, .int lI, .int sW, .int dP, .int sT, .long aT, .int cH, .int iW, .ref mI, .ref mJ, .ref mS, .ref mD, .int iH, .int aE, .int vm, .long vz, .ref mX, .int tS, .int tA, .int tW, .ref mA, .ref mB, .ref mW, .ref mL, .int lS])), (mH, .inl (cI, 512, .inl fH))] H := hP
      have hD : va_D A [(m0, .inr (8, [.ref mH, .int aM, .long aC, .int mM, .long mQ, .int oV, .int pL, .int lI, .int sW, .int dP, .int sT, .long aT, .int cH, .int iW, .ref mI, .ref mJ, .ref mS, .ref mD, .int iH, .int aE, .int vm, .long vz, .ref mX, .int tS, .int tA, .int tW, .ref mA, .ref mB, .ref mW, .ref mL, .int lS])), (mH, .inl (cI, 512, .inl fH))] := hD
      try dsimp only at wr_8
      try simp only [Int32.reduceToInt, Int64.reduceToInt] at wr_8
      refine kCallVd (wr := []) (va_runV (As := [.long r_8]) (rest := []) ⟨hx, hb, hml, hown, hts⟩ (q_store l D cI cL cB cZ cT _ m0 mH mI mJ mS mD mX mA mB mW mL aM aC mM mQ oV pL lI sW dP sT aT cH iW iH aE vm vz tS tA tW lS fH r_8 (by have h8 := hadw (by first | omega | decide); omega)) (cwV 1 hts gX8_reckons_X8_store rfl rfl rfl (by decide +kernel) ⟨Nat.le_of_ble_eq_true rfl, Nat.le_of_ble_eq_true rfl⟩) (kPreV hG hP hD [0, 1] rfl (by decide) 0 8 rfl rfl rfl) rfl rfl hl.1 rfl (lv_room (Nat.le_of_ble_eq_true rfl)) dX8_reckons_208 ⟨Nat.le_of_ble_eq_true rfl, Nat.le_of_ble_eq_true rfl⟩) hA hP hD hS [0, 1] [] rfl rfl (by decide) (by decide) (fun _ u_r_9 H locs wr_9 hP hD hS => ?_)
      have hP : va_P D vwCl [(m0, .inr (8, [.ref mH, .int aM, .long aC, .int mM, .long mQ, .int oV, .int pL, .int lI, .int sW, .int dP, .int sT, .long aT, .int cH, .int iW, .ref mI, .ref mJ, .ref mS, .ref mD, .int iH, .int aE, .int vm, .long vz, .ref mX, .int tS, .int tA, .int tW, .ref mA, .ref mB, .ref mW, .ref mL, .int lS])), (mH, .inl (cI, 512, .inl u_r_9))] H := hP
      have hD : va_D A [(m0, .inr (8, [.ref mH, .int aM, .long aC, .int mM, .long mQ, .int oV, .int pL, .int lI, .int sW, .int dP, .int sT, .long aT, .int cH, .int iW, .ref mI, .ref mJ, .ref mS, .ref mD, .int iH, .int aE, .int vm, .long vz, .ref mX, .int tS, .int tA, .int tW, .ref mA, .ref mB, .ref mW, .ref mL, .int lS])), (mH, .inl (cI, 512, .inl u_r_9))] := hD
      try dsimp only at wr_9
      try simp only [Int32.reduceToInt, Int64.reduceToInt] at wr_9
      refine lv_goto (tgt := 296) hx hb dX8_reckons_211 (by decide) ?_
      refine lv_iconst (v := 0) hx hb dX8_reckons_296 (by decide) ?_
      refine kIret (u := (aM, aC, mM, mQ, oV, vm, vz, u_r_9)) hx hb hr rfl hlocks hS dX8_reckons_297 ?_ (hP.sub [0, 1] rfl) (hD.sub [0, 1] (by decide) rfl)
      try dsimp only
      repeat' (with_reducible apply And.intro)
      all_goals first | with_reducible assumption | ((try simp only [jT_, jP_, jD_, jC_, jB_, jW_, Int32.reduceToInt, Int64.reduceToInt, true_or, or_true, true_and, and_true]) <;> omega)
    · refine lv_tableIn (tgt := 214) (off := 202) hx hb dX8_reckons_12 (by decide) (by decide) (by decide) (by decide) ?_
      refine lv_aload_n hx hb dX8_reckons_214 rfl (lv_at hl 0 rfl) ?_
      refine kCallVd (wr := []) (va_runV (As := []) (rest := []) ⟨hx, hb, hml, hown, hts⟩ (q_extract l D cI cL cB cZ cT _ m0 mH mI mJ mS mD mX mA mB mW mL aM aC mM mQ oV pL lI sW dP sT aT cH iW iH aE vm vz tS tA tW lS fH (by have h8 := hadw (by first | omega | decide); omega)) (cwV 0 hts gX8_reckons_X8_extract rfl rfl rfl (by decide +kernel) ⟨Nat.le_of_ble_eq_true rfl, Nat.le_of_ble_eq_true rfl⟩) (kPreV hG hP hD [0, 1] rfl (by decide) 0 8 rfl rfl rfl) rfl rfl hl.1 rfl (lv_room (Nat.le_of_ble_eq_true rfl)) dX8_reckons_215 ⟨Nat.le_of_ble_eq_true rfl, Nat.le_of_ble_eq_true rfl⟩) hA hP hD hS [0, 1] [] rfl rfl (by decide) (by decide) (fun _ u_r_10 H locs wr_10 hP hD hS => ?_)
      have hP : va_P D vwCl [(m0, .inr (8, [.ref mH, .int aM, .long aC, .int mM, .long mQ, .int oV, .int pL, .int lI, .int sW, .int dP, .int sT, .long aT, .int cH, .int iW, .ref mI, .ref mJ, .ref mS, .ref mD, .int iH, .int aE, .int vm, .long vz, .ref mX, .int tS, .int tA, .int tW, .ref mA, .ref mB, .ref mW, .ref mL, .int lS])), (mH, .inl (cI, 512, .inl u_r_10))] H := hP
      have hD : va_D A [(m0, .inr (8, [.ref mH, .int aM, .long aC, .int mM, .long mQ, .int oV, .int pL, .int lI, .int sW, .int dP, .int sT, .long aT, .int cH, .int iW, .ref mI, .ref mJ, .ref mS, .ref mD, .int iH, .int aE, .int vm, .long vz, .ref mX, .int tS, .int tA, .int tW, .ref mA, .ref mB, .ref mW, .ref mL, .int lS])), (mH, .inl (cI, 512, .inl u_r_10))] := hD
      try dsimp only at wr_10
      try simp only [Int32.reduceToInt, Int64.reduceToInt] at wr_10
      refine lv_goto (tgt := 296) hx hb dX8_reckons_218 (by decide) ?_
      refine lv_iconst (v := 0) hx hb dX8_reckons_296 (by decide) ?_
      refine kIret (u := (aM, aC, mM, mQ, oV, vm, vz, u_r_10)) hx hb hr rfl hlocks hS dX8_reckons_297 ?_ (hP.sub [0, 1] rfl) (hD.sub [0, 1] (by decide) rfl)
      try dsimp only
      repeat' (with_reducible apply And.intro)
      all_goals first | with_reducible assumption | ((try simp only [jT_, jP_, jD_, jC_, jB_, jW_, Int32.reduceToInt, Int64.reduceToInt, true_or, or_true, true_and, and_true]) <;> omega)
    · refine lv_tableIn (tgt := 221) (off := 209) hx hb dX8_reckons_12 (by decide) (by decide) (by decide) (by decide) ?_
      refine lv_aload_n hx hb dX8_reckons_221 rfl (lv_at hl 0 rfl) ?_
      refine lv_aload_n hx hb dX8_reckons_222 rfl (lv_at hl 0 rfl) ?_
      refine va_get (D := D) (ci := 8) (v := .int mM) (C := RX8) (T := TX8) (N := 31) hx hb hts iX8_reckons_X8 hown hK hP 0 rfl rfl 3 (by decide) (hts (.fieldLink RX8 69 "TapeCalculatorModel" "mqMinus" "Z") (List.mem_of_getElem? (i := 5) rfl)) (fun _ h9 => h9) rfl dX8_reckons_223 ?_
      refine lv_aload_n hx hb dX8_reckons_226 rfl (lv_at hl 0 rfl) ?_
      refine va_get (D := D) (ci := 8) (v := .long mQ) (C := RX8) (T := TX8) (N := 31) hx hb hts iX8_reckons_X8 hown hK hP 0 rfl rfl 4 (by decide) (hts (.fieldLink RX8 72 "TapeCalculatorModel" "mq" "J") (List.mem_of_getElem? (i := 6) rfl)) (fun _ h9 => h9) rfl dX8_reckons_227 ?_
      refine kCallL (wr := [(m0, .inr (8, [.ref mH, .int aM, .long aC, .int mM, .long mQ, .int oV, .int pL, .int lI, .int sW, .int dP, .int sT, .long aT, .int cH, .int iW, .ref mI, .ref mJ, .ref mS, .ref mD, .int iH, .int aE, .int vm, .long vz, .ref mX, .int tS, .int tA, .int tW, .ref mA, .ref mB, .ref mW, .ref mL, .int lS])), (mH, .inl (cI, 512, .inl fH))]) (va_runS (As := [.int mM, .long mQ]) (rest := [.ref m0]) ⟨hx, hb, hml, hown, hts⟩ (q_bits l D cI cL cB cZ cT _ mM mQ) (va_cwS 2 hts gX8_reckons_X8_bits rfl rfl rfl (by decide +kernel) ⟨Nat.le_of_ble_eq_true rfl, Nat.le_of_ble_eq_true rfl⟩) (kPreS hG hP hD [] rfl (by decide)) rfl rfl hl.1 rfl (lv_room (Nat.le_of_ble_eq_true rfl)) dX8_reckons_230 ⟨Nat.le_of_ble_eq_true rfl, Nat.le_of_ble_eq_true rfl⟩) hA hP hD hS [] [0, 1] rfl rfl (by decide) (by decide) (fun r_11 u_r_11 H locs wr_11 hP hD hS => ?_)
      have hP : va_P D vwCl [(m0, .inr (8, [.ref mH, .int aM, .long aC, .int mM, .long mQ, .int oV, .int pL, .int lI, .int sW, .int dP, .int sT, .long aT, .int cH, .int iW, .ref mI, .ref mJ, .ref mS, .ref mD, .int iH, .int aE, .int vm, .long vz, .ref mX, .int tS, .int tA, .int tW, .ref mA, .ref mB, .ref mW, .ref mL, .int lS])), (mH, .inl (cI, 512, .inl fH))] H := hP
      have hD : va_D A [(m0, .inr (8, [.ref mH, .int aM, .long aC, .int mM, .long mQ, .int oV, .int pL, .int lI, .int sW, .int dP, .int sT, .long aT, .int cH, .int iW, .ref mI, .ref mJ, .ref mS, .ref mD, .int iH, .int aE, .int vm, .long vz, .ref mX, .int tS, .int tA, .int tW, .ref mA, .ref mB, .ref mW, .ref mL, .int lS])), (mH, .inl (cI, 512, .inl fH))] := hD
      try dsimp only at wr_11
      try simp only [Int32.reduceToInt, Int64.reduceToInt] at wr_11
      refine kCallVd (wr := []) (va_runV (As := [.long r_11]) (rest := []) ⟨hx, hb, hml, hown, hts⟩ (q_store l D cI cL cB cZ cT _ m0 mH mI mJ mS mD mX mA mB mW mL aM aC mM mQ oV pL lI sW dP sT aT cH iW iH aE vm vz tS tA tW lS fH r_11 (by have h8 := hadw (by first | omega | decide); omega)) (cwV 1 hts gX8_reckons_X8_store rfl rfl rfl (by decide +kernel) ⟨Nat.le_of_ble_eq_true rfl, Nat.le_of_ble_eq_true rfl⟩) (kPreV hG hP hD [0, 1] rfl (by decide) 0 8 rfl rfl rfl) rfl rfl hl.1 rfl (lv_room (Nat.le_of_ble_eq_true rfl)) dX8_reckons_233 ⟨Nat.le_of_ble_eq_true rfl, Nat.le_of_ble_eq_true rfl⟩) hA hP hD hS [0, 1] [] rfl rfl (by decide) (by decide) (fun _ u_r_12 H locs wr_12 hP hD hS => ?_)
      have hP : va_P D vwCl [(m0, .inr (8, [.ref mH, .int aM, .long aC, .int mM, .long mQ, .int oV, .int pL, .int lI, .int sW, .int dP, .int sT, .long aT, .int cH, .int iW, .ref mI, .ref mJ, .ref mS, .ref mD, .int iH, .int aE, .int vm, .long vz, .ref mX, .int tS, .int tA, .int tW, .ref mA, .ref mB, .ref mW, .ref mL, .int lS])), (mH, .inl (cI, 512, .inl u_r_12))] H := hP
      have hD : va_D A [(m0, .inr (8, [.ref mH, .int aM, .long aC, .int mM, .long mQ, .int oV, .int pL, .int lI, .int sW, .int dP, .int sT, .long aT, .int cH, .int iW, .ref mI, .ref mJ, .ref mS, .ref mD, .int iH, .int aE, .int vm, .long vz, .ref mX, .int tS, .int tA, .int tW, .ref mA, .ref mB, .ref mW, .ref mL, .int lS])), (mH, .inl (cI, 512, .inl u_r_12))] := hD
      try dsimp only at wr_12
      try simp only [Int32.reduceToInt, Int64.reduceToInt] at wr_12
      refine lv_goto (tgt := 296) hx hb dX8_reckons_236 (by decide) ?_
      refine lv_iconst (v := 0) hx hb dX8_reckons_296 (by decide) ?_
      refine kIret (u := (aM, aC, mM, mQ, oV, vm, vz, u_r_12)) hx hb hr rfl hlocks hS dX8_reckons_297 ?_ (hP.sub [0, 1] rfl) (hD.sub [0, 1] (by decide) rfl)
      try dsimp only
      repeat' (with_reducible apply And.intro)
      all_goals first | with_reducible assumption | ((try simp only [jT_, jP_, jD_, jC_, jB_, jW_, Int32.reduceToInt, Int64.reduceToInt, true_or, or_true, true_and, and_true]) <;> omega)
    · refine lv_tableIn (tgt := 239) (off := 227) hx hb dX8_reckons_12 (by decide) (by decide) (by decide) (by decide) ?_
      refine lv_aload_n hx hb dX8_reckons_239 rfl (lv_at hl 0 rfl) ?_
      refine lv_aload_n hx hb dX8_reckons_240 rfl (lv_at hl 0 rfl) ?_
      refine va_get (D := D) (ci := 8) (v := .long vz) (C := RX8) (T := TX8) (N := 31) hx hb hts iX8_reckons_X8 hown hK hP 0 rfl rfl 21 (by decide) (hts (.fieldLink RX8 145 "TapeCalculatorModel" "size" "J") (List.mem_of_getElem? (i := 2) rfl)) (fun _ h9 => h9) rfl dX8_reckons_241 ?_
      refine va_put (D := D) (ci := 8) (v := .long vz) (ty := .long) (C := RX8) (T := TX8) (N := 31) hx hb hts iX8_reckons_X8 tyX8 tyX8_ok nmX8 hown hK hP hD hS 0 rfl rfl 4 (by decide) (hts (.fieldLink RX8 72 "TapeCalculatorModel" "mq" "J") (List.mem_of_getElem? (i := 6) rfl)) (fun _ h9 => h9) rfl (by decide +kernel) rfl rfl (Nat.le_of_ble_eq_true rfl) dX8_reckons_244 (fun H locs hP hD hS => ?_)
      have hP : va_P D vwCl [(m0, .inr (8, [.ref mH, .int aM, .long aC, .int mM, .long vz, .int oV, .int pL, .int lI, .int sW, .int dP, .int sT, .long aT, .int cH, .int iW, .ref mI, .ref mJ, .ref mS, .ref mD, .int iH, .int aE, .int vm, .long vz, .ref mX, .int tS, .int tA, .int tW, .ref mA, .ref mB, .ref mW, .ref mL, .int lS])), (mH, .inl (cI, 512, .inl fH))] H := hP
      have hD : va_D A [(m0, .inr (8, [.ref mH, .int aM, .long aC, .int mM, .long vz, .int oV, .int pL, .int lI, .int sW, .int dP, .int sT, .long aT, .int cH, .int iW, .ref mI, .ref mJ, .ref mS, .ref mD, .int iH, .int aE, .int vm, .long vz, .ref mX, .int tS, .int tA, .int tW, .ref mA, .ref mB, .ref mW, .ref mL, .int lS])), (mH, .inl (cI, 512, .inl fH))] := hD
      refine lv_aload_n hx hb dX8_reckons_247 rfl (lv_at hl 0 rfl) ?_
      refine lv_aload_n hx hb dX8_reckons_248 rfl (lv_at hl 0 rfl) ?_
      refine va_get (D := D) (ci := 8) (v := .int vm) (C := RX8) (T := TX8) (N := 31) hx hb hts iX8_reckons_X8 hown hK hP 0 rfl rfl 20 (by decide) (hts (.fieldLink RX8 142 "TapeCalculatorModel" "minus" "Z") (List.mem_of_getElem? (i := 1) rfl)) (fun _ h9 => h9) rfl dX8_reckons_249 ?_
      refine va_put (D := D) (ci := 8) (v := .int vm) (ty := .boolean) (C := RX8) (T := TX8) (N := 31) hx hb hts iX8_reckons_X8 tyX8 tyX8_ok nmX8 hown hK hP hD hS 0 rfl rfl 3 (by decide) (hts (.fieldLink RX8 69 "TapeCalculatorModel" "mqMinus" "Z") (List.mem_of_getElem? (i := 5) rfl)) (fun _ h9 => h9) rfl (by decide +kernel) (kz_n (k_b (by first | assumption | omega))) (kz_f (k_b (by first | assumption | omega))) (Nat.le_of_ble_eq_true rfl) dX8_reckons_252 (fun H locs hP hD hS => ?_)
      have hP : va_P D vwCl [(m0, .inr (8, [.ref mH, .int aM, .long aC, .int vm, .long vz, .int oV, .int pL, .int lI, .int sW, .int dP, .int sT, .long aT, .int cH, .int iW, .ref mI, .ref mJ, .ref mS, .ref mD, .int iH, .int aE, .int vm, .long vz, .ref mX, .int tS, .int tA, .int tW, .ref mA, .ref mB, .ref mW, .ref mL, .int lS])), (mH, .inl (cI, 512, .inl fH))] H := hP
      have hD : va_D A [(m0, .inr (8, [.ref mH, .int aM, .long aC, .int vm, .long vz, .int oV, .int pL, .int lI, .int sW, .int dP, .int sT, .long aT, .int cH, .int iW, .ref mI, .ref mJ, .ref mS, .ref mD, .int iH, .int aE, .int vm, .long vz, .ref mX, .int tS, .int tA, .int tW, .ref mA, .ref mB, .ref mW, .ref mL, .int lS])), (mH, .inl (cI, 512, .inl fH))] := hD
      refine lv_goto (tgt := 296) hx hb dX8_reckons_255 (by decide) ?_
      refine lv_iconst (v := 0) hx hb dX8_reckons_296 (by decide) ?_
      refine kIret (u := (aM, aC, vm, vz, oV, vm, vz, fH)) hx hb hr rfl hlocks hS dX8_reckons_297 ?_ (hP.sub [0, 1] rfl) (hD.sub [0, 1] (by decide) rfl)
      try dsimp only
      repeat' (with_reducible apply And.intro)
      all_goals first | with_reducible assumption | ((try simp only [jT_, jP_, jD_, jC_, jB_, jW_, Int32.reduceToInt, Int64.reduceToInt, true_or, or_true, true_and, and_true]) <;> omega)
    · refine lv_tableIn (tgt := 258) (off := 246) hx hb dX8_reckons_12 (by decide) (by decide) (by decide) (by decide) ?_
      refine lv_aload_n hx hb dX8_reckons_258 rfl (lv_at hl 0 rfl) ?_
      refine kCallVd (wr := [(mH, .inl (cI, 512, .inl fH))]) (va_runV (As := []) (rest := []) ⟨hx, hb, hml, hown, hts⟩ (q_times l D cI cL cB cZ cT _ m0 mH mI mJ mS mD mX mA mB mW mL aM aC mM mQ oV pL lI sW dP sT aT cH iW iH aE vm vz tS tA tW lS) (cwV 0 hts gX8_reckons_X8_times rfl rfl rfl (by decide +kernel) ⟨Nat.le_of_ble_eq_true rfl, Nat.le_of_ble_eq_true rfl⟩) (kPreV hG hP hD [0] rfl (by decide) 0 8 rfl rfl rfl) rfl rfl hl.1 rfl (lv_room (Nat.le_of_ble_eq_true rfl)) dX8_reckons_259 ⟨Nat.le_of_ble_eq_true rfl, Nat.le_of_ble_eq_true rfl⟩) hA hP hD hS [0] [1] rfl rfl (by decide) (by decide) (fun _ u_r_13 H locs wr_13 hP hD hS => ?_)
      have hP : va_P D vwCl [(mH, .inl (cI, 512, .inl fH)), (m0, .inr (8, [.ref mH, .int u_r_13.1, .long u_r_13.2.1, .int u_r_13.2.2.1, .long u_r_13.2.2.2, .int oV, .int pL, .int lI, .int sW, .int dP, .int sT, .long aT, .int cH, .int iW, .ref mI, .ref mJ, .ref mS, .ref mD, .int iH, .int aE, .int vm, .long vz, .ref mX, .int tS, .int tA, .int tW, .ref mA, .ref mB, .ref mW, .ref mL, .int lS]))] H := hP
      have hD : va_D A [(mH, .inl (cI, 512, .inl fH)), (m0, .inr (8, [.ref mH, .int u_r_13.1, .long u_r_13.2.1, .int u_r_13.2.2.1, .long u_r_13.2.2.2, .int oV, .int pL, .int lI, .int sW, .int dP, .int sT, .long aT, .int cH, .int iW, .ref mI, .ref mJ, .ref mS, .ref mD, .int iH, .int aE, .int vm, .long vz, .ref mX, .int tS, .int tA, .int tW, .ref mA, .ref mB, .ref mW, .ref mL, .int lS]))] := hD
      try dsimp only at wr_13
      try simp only [Int32.reduceToInt, Int64.reduceToInt] at wr_13
      obtain ⟨wr_13_0, wr_13_1⟩ := wr_13
      refine lv_goto (tgt := 296) hx hb dX8_reckons_262 (by decide) ?_
      refine lv_iconst (v := 0) hx hb dX8_reckons_296 (by decide) ?_
      refine kIret (u := (u_r_13.1, u_r_13.2.1, u_r_13.2.2.1, u_r_13.2.2.2, oV, vm, vz, fH)) hx hb hr rfl hlocks hS dX8_reckons_297 ?_ (hP.sub [1, 0] rfl) (hD.sub [1, 0] (by decide) rfl)
      try dsimp only
      repeat' (with_reducible apply And.intro)
      all_goals first | with_reducible assumption | ((try simp only [jT_, jP_, jD_, jC_, jB_, jW_, Int32.reduceToInt, Int64.reduceToInt, true_or, or_true, true_and, and_true]) <;> omega)
    · refine lv_tableIn (tgt := 265) (off := 253) hx hb dX8_reckons_12 (by decide) (by decide) (by decide) (by decide) ?_
      refine lv_aload_n hx hb dX8_reckons_265 rfl (lv_at hl 0 rfl) ?_
      refine kCallVd (wr := [(mH, .inl (cI, 512, .inl fH))]) (va_runV (As := []) (rest := []) ⟨hx, hb, hml, hown, hts⟩ (q_times l D cI cL cB cZ cT _ m0 mH mI mJ mS mD mX mA mB mW mL aM aC mM mQ oV pL lI sW dP sT aT cH iW iH aE vm vz tS tA tW lS) (cwV 0 hts gX8_reckons_X8_times rfl rfl rfl (by decide +kernel) ⟨Nat.le_of_ble_eq_true rfl, Nat.le_of_ble_eq_true rfl⟩) (kPreV hG hP hD [0] rfl (by decide) 0 8 rfl rfl rfl) rfl rfl hl.1 rfl (lv_room (Nat.le_of_ble_eq_true rfl)) dX8_reckons_266 ⟨Nat.le_of_ble_eq_true rfl, Nat.le_of_ble_eq_true rfl⟩) hA hP hD hS [0] [1] rfl rfl (by decide) (by decide) (fun _ u_r_14 H locs wr_14 hP hD hS => ?_)
      have hP : va_P D vwCl [(mH, .inl (cI, 512, .inl fH)), (m0, .inr (8, [.ref mH, .int u_r_14.1, .long u_r_14.2.1, .int u_r_14.2.2.1, .long u_r_14.2.2.2, .int oV, .int pL, .int lI, .int sW, .int dP, .int sT, .long aT, .int cH, .int iW, .ref mI, .ref mJ, .ref mS, .ref mD, .int iH, .int aE, .int vm, .long vz, .ref mX, .int tS, .int tA, .int tW, .ref mA, .ref mB, .ref mW, .ref mL, .int lS]))] H := hP
      have hD : va_D A [(mH, .inl (cI, 512, .inl fH)), (m0, .inr (8, [.ref mH, .int u_r_14.1, .long u_r_14.2.1, .int u_r_14.2.2.1, .long u_r_14.2.2.2, .int oV, .int pL, .int lI, .int sW, .int dP, .int sT, .long aT, .int cH, .int iW, .ref mI, .ref mJ, .ref mS, .ref mD, .int iH, .int aE, .int vm, .long vz, .ref mX, .int tS, .int tA, .int tW, .ref mA, .ref mB, .ref mW, .ref mL, .int lS]))] := hD
      try dsimp only at wr_14
      try simp only [Int32.reduceToInt, Int64.reduceToInt] at wr_14
      obtain ⟨wr_14_0, wr_14_1⟩ := wr_14
      refine lv_aload_n hx hb dX8_reckons_269 rfl (lv_at hl 0 rfl) ?_
      refine kCallVd (wr := [(mH, .inl (cI, 512, .inl fH))]) (va_runV (As := []) (rest := []) ⟨hx, hb, hml, hown, hts⟩ (q_round l D cI cL cB cZ cT _ m0 mH mI mJ mS mD mX mA mB mW mL (u_r_14.1) (u_r_14.2.1) (u_r_14.2.2.1) (u_r_14.2.2.2) oV pL lI sW dP sT aT cH iW iH aE vm vz tS tA tW lS (by first | with_reducible assumption | ((try simp only [jT_, jP_, jD_, jC_, jB_, jW_, Int32.reduceToInt, Int64.reduceToInt, true_or, or_true, true_and, and_true]) <;> omega))) (cwV 0 hts gX8_reckons_X8_round rfl rfl rfl (by decide +kernel) ⟨Nat.le_of_ble_eq_true rfl, Nat.le_of_ble_eq_true rfl⟩) (kPreV hG hP hD [1] rfl (by decide) 0 8 rfl rfl rfl) rfl rfl hl.1 rfl (lv_room (Nat.le_of_ble_eq_true rfl)) dX8_reckons_270 ⟨Nat.le_of_ble_eq_true rfl, Nat.le_of_ble_eq_true rfl⟩) hA hP hD hS [1] [0] rfl rfl (by decide) (by decide) (fun _ u_r_15 H locs wr_15 hP hD hS => ?_)
      have hP : va_P D vwCl [(mH, .inl (cI, 512, .inl fH)), (m0, .inr (8, [.ref mH, .int u_r_14.1, .long u_r_15.1, .int u_r_14.2.2.1, .long u_r_14.2.2.2, .int u_r_15.2, .int pL, .int lI, .int sW, .int dP, .int sT, .long aT, .int cH, .int iW, .ref mI, .ref mJ, .ref mS, .ref mD, .int iH, .int aE, .int vm, .long vz, .ref mX, .int tS, .int tA, .int tW, .ref mA, .ref mB, .ref mW, .ref mL, .int lS]))] H := hP
      have hD : va_D A [(mH, .inl (cI, 512, .inl fH)), (m0, .inr (8, [.ref mH, .int u_r_14.1, .long u_r_15.1, .int u_r_14.2.2.1, .long u_r_14.2.2.2, .int u_r_15.2, .int pL, .int lI, .int sW, .int dP, .int sT, .long aT, .int cH, .int iW, .ref mI, .ref mJ, .ref mS, .ref mD, .int iH, .int aE, .int vm, .long vz, .ref mX, .int tS, .int tA, .int tW, .ref mA, .ref mB, .ref mW, .ref mL, .int lS]))] := hD
      try dsimp only at wr_15
      try simp only [Int32.reduceToInt, Int64.reduceToInt] at wr_15
      refine lv_goto (tgt := 296) hx hb dX8_reckons_273 (by decide) ?_
      refine lv_iconst (v := 0) hx hb dX8_reckons_296 (by decide) ?_
      refine kIret (u := (u_r_14.1, u_r_15.1, u_r_14.2.2.1, u_r_14.2.2.2, u_r_15.2, vm, vz, fH)) hx hb hr rfl hlocks hS dX8_reckons_297 ?_ (hP.sub [1, 0] rfl) (hD.sub [1, 0] (by decide) rfl)
      try dsimp only
      repeat' (with_reducible apply And.intro)
      all_goals first | with_reducible assumption | ((try simp only [jT_, jP_, jD_, jC_, jB_, jW_, Int32.reduceToInt, Int64.reduceToInt, true_or, or_true, true_and, and_true]) <;> omega)
    · refine lv_tableIn (tgt := 276) (off := 264) hx hb dX8_reckons_12 (by decide) (by decide) (by decide) (by decide) ?_
      refine lv_aload_n hx hb dX8_reckons_276 rfl (lv_at hl 0 rfl) ?_
      refine kCallI (wr := [(mH, .inl (cI, 512, .inl fH))]) (va_runV (As := []) (rest := []) ⟨hx, hb, hml, hown, hts⟩ (q_shares l D cI cL cB cZ cT _ m0 mH mI mJ mS mD mX mA mB mW mL aM aC mM mQ oV pL lI sW dP sT aT cH iW iH aE vm vz tS tA tW lS (by first | with_reducible assumption | ((try simp only [jT_, jP_, jD_, jC_, jB_, jW_, Int32.reduceToInt, Int64.reduceToInt, true_or, or_true, true_and, and_true]) <;> omega))) (cwV 0 hts gX8_reckons_X8_shares rfl rfl rfl (by decide +kernel) ⟨Nat.le_of_ble_eq_true rfl, Nat.le_of_ble_eq_true rfl⟩) (kPreV hG hP hD [0] rfl (by decide) 0 8 rfl rfl rfl) rfl rfl hl.1 rfl (lv_room (Nat.le_of_ble_eq_true rfl)) dX8_reckons_277 ⟨Nat.le_of_ble_eq_true rfl, Nat.le_of_ble_eq_true rfl⟩) hA hP hD hS [0] [1] rfl rfl (by decide) (by decide) (fun r_16 u_r_16 H locs wr_16 hP hD hS => ?_)
      have hP : va_P D vwCl [(mH, .inl (cI, 512, .inl fH)), (m0, .inr (8, [.ref mH, .int aM, .long u_r_16.1, .int u_r_16.2.1, .long u_r_16.2.2, .int oV, .int pL, .int lI, .int sW, .int dP, .int sT, .long aT, .int cH, .int iW, .ref mI, .ref mJ, .ref mS, .ref mD, .int iH, .int aE, .int vm, .long vz, .ref mX, .int tS, .int tA, .int tW, .ref mA, .ref mB, .ref mW, .ref mL, .int lS]))] H := hP
      have hD : va_D A [(mH, .inl (cI, 512, .inl fH)), (m0, .inr (8, [.ref mH, .int aM, .long u_r_16.1, .int u_r_16.2.1, .long u_r_16.2.2, .int oV, .int pL, .int lI, .int sW, .int dP, .int sT, .long aT, .int cH, .int iW, .ref mI, .ref mJ, .ref mS, .ref mD, .int iH, .int aE, .int vm, .long vz, .ref mX, .int tS, .int tA, .int tW, .ref mA, .ref mB, .ref mW, .ref mL, .int lS]))] := hD
      try dsimp only at wr_16
      try simp only [Int32.reduceToInt, Int64.reduceToInt] at wr_16
      obtain ⟨wr_16_0, wr_16_1⟩ := wr_16
      refine lv_if_eq (tgt := 287) hx hb dX8_reckons_280 (by decide) (fun c_280_16 => ?_) (fun c_280_16 => ?_)
      · have t_280_16 := c_280_16
        try simp only [kb_eq0, kb_ne0, lg_cmp_lt, lg_cmp_le, lg_cmp_gt, lg_cmp_ge, lg_cmp_eq] at t_280_16
        try simp only [Int32.lt_iff_toInt_lt, Int32.le_iff_toInt_le, ← Int32.toInt_inj, Int64.lt_iff_toInt_lt, Int64.le_iff_toInt_le, ← Int64.toInt_inj, Int32.toInt_toInt64, Int32.reduceToInt, Int64.reduceToInt] at t_280_16
        refine lv_iconst (v := 3) hx hb dX8_reckons_287 (by decide) ?_
        refine kIret (u := (aM, u_r_16.1, u_r_16.2.1, u_r_16.2.2, oV, vm, vz, fH)) hx hb hr rfl hlocks hS dX8_reckons_288 ?_ (hP.sub [1, 0] rfl) (hD.sub [1, 0] (by decide) rfl)
        try dsimp only
        repeat' (with_reducible apply And.intro)
        all_goals first | with_reducible assumption | ((try simp only [jT_, jP_, jD_, jC_, jB_, jW_, Int32.reduceToInt, Int64.reduceToInt, true_or, or_true, true_and, and_true]) <;> omega)
      · have t_280_16 := c_280_16
        try simp only [kb_eq0, kb_ne0, lg_cmp_lt, lg_cmp_le, lg_cmp_gt, lg_cmp_ge, lg_cmp_eq] at t_280_16
        try simp only [Int32.lt_iff_toInt_lt, Int32.le_iff_toInt_le, ← Int32.toInt_inj, Int64.lt_iff_toInt_lt, Int64.le_iff_toInt_le, ← Int64.toInt_inj, Int32.toInt_toInt64, Int32.reduceToInt, Int64.reduceToInt] at t_280_16
        refine lv_iconst (v := 0) hx hb dX8_reckons_283 (by decide) ?_
        refine lv_goto (tgt := 288) hx hb dX8_reckons_284 (by decide) ?_
        refine kIret (u := (aM, u_r_16.1, u_r_16.2.1, u_r_16.2.2, oV, vm, vz, fH)) hx hb hr rfl hlocks hS dX8_reckons_288 ?_ (hP.sub [1, 0] rfl) (hD.sub [1, 0] (by decide) rfl)
        try dsimp only
        repeat' (with_reducible apply And.intro)
        all_goals first | with_reducible assumption | ((try simp only [jT_, jP_, jD_, jC_, jB_, jW_, Int32.reduceToInt, Int64.reduceToInt, true_or, or_true, true_and, and_true]) <;> omega)
    · refine lv_tableIn (tgt := 289) (off := 277) hx hb dX8_reckons_12 (by decide) (by decide) (by decide) (by decide) ?_
      refine lv_aload_n hx hb dX8_reckons_289 rfl (lv_at hl 0 rfl) ?_
      refine kCallVd (wr := [(mH, .inl (cI, 512, .inl fH))]) (va_runV (As := []) (rest := []) ⟨hx, hb, hml, hown, hts⟩ (q_round l D cI cL cB cZ cT _ m0 mH mI mJ mS mD mX mA mB mW mL aM aC mM mQ oV pL lI sW dP sT aT cH iW iH aE vm vz tS tA tW lS (by first | with_reducible assumption | ((try simp only [jT_, jP_, jD_, jC_, jB_, jW_, Int32.reduceToInt, Int64.reduceToInt, true_or, or_true, true_and, and_true]) <;> omega))) (cwV 0 hts gX8_reckons_X8_round rfl rfl rfl (by decide +kernel) ⟨Nat.le_of_ble_eq_true rfl, Nat.le_of_ble_eq_true rfl⟩) (kPreV hG hP hD [0] rfl (by decide) 0 8 rfl rfl rfl) rfl rfl hl.1 rfl (lv_room (Nat.le_of_ble_eq_true rfl)) dX8_reckons_290 ⟨Nat.le_of_ble_eq_true rfl, Nat.le_of_ble_eq_true rfl⟩) hA hP hD hS [0] [1] rfl rfl (by decide) (by decide) (fun _ u_r_18 H locs wr_18 hP hD hS => ?_)
      have hP : va_P D vwCl [(mH, .inl (cI, 512, .inl fH)), (m0, .inr (8, [.ref mH, .int aM, .long u_r_18.1, .int mM, .long mQ, .int u_r_18.2, .int pL, .int lI, .int sW, .int dP, .int sT, .long aT, .int cH, .int iW, .ref mI, .ref mJ, .ref mS, .ref mD, .int iH, .int aE, .int vm, .long vz, .ref mX, .int tS, .int tA, .int tW, .ref mA, .ref mB, .ref mW, .ref mL, .int lS]))] H := hP
      have hD : va_D A [(mH, .inl (cI, 512, .inl fH)), (m0, .inr (8, [.ref mH, .int aM, .long u_r_18.1, .int mM, .long mQ, .int u_r_18.2, .int pL, .int lI, .int sW, .int dP, .int sT, .long aT, .int cH, .int iW, .ref mI, .ref mJ, .ref mS, .ref mD, .int iH, .int aE, .int vm, .long vz, .ref mX, .int tS, .int tA, .int tW, .ref mA, .ref mB, .ref mW, .ref mL, .int lS]))] := hD
      try dsimp only at wr_18
      try simp only [Int32.reduceToInt, Int64.reduceToInt] at wr_18
      refine lv_goto (tgt := 296) hx hb dX8_reckons_293 (by decide) ?_
      refine lv_iconst (v := 0) hx hb dX8_reckons_296 (by decide) ?_
      refine kIret (u := (aM, u_r_18.1, mM, mQ, u_r_18.2, vm, vz, fH)) hx hb hr rfl hlocks hS dX8_reckons_297 ?_ (hP.sub [1, 0] rfl) (hD.sub [1, 0] (by decide) rfl)
      try dsimp only
      repeat' (with_reducible apply And.intro)
      all_goals first | with_reducible assumption | ((try simp only [jT_, jP_, jD_, jC_, jB_, jW_, Int32.reduceToInt, Int64.reduceToInt, true_or, or_true, true_and, and_true]) <;> omega)
  refine lv_iload_n hx hb dX8_reckons_0 rfl (lv_at hl 1 rfl) ?_
  refine kCallI (wr := [(m0, .inr (8, [.ref mH, .int aM, .long aC, .int mM, .long mQ, .int oV, .int pL, .int lI, .int sW, .int dP, .int sT, .long aT, .int cH, .int iW, .ref mI, .ref mJ, .ref mS, .ref mD, .int iH, .int aE, .int mN, .long sZ, .ref mX, .int tS, .int tA, .int tW, .ref mA, .ref mB, .ref mW, .ref mL, .int lS])), (mH, .inl (cI, 512, .inl fH))]) (va_runS (As := [.int a]) (rest := []) ⟨hx, hb, hml, hown, hts⟩ (q_wants l D cI cL cB cZ cT _ a) (va_cwS 1 hts gX8_reckons_X8_wants rfl rfl rfl (by decide +kernel) ⟨Nat.le_of_ble_eq_true rfl, Nat.le_of_ble_eq_true rfl⟩) (kPreS hG hP hD [] rfl (by decide)) rfl rfl hl.1 rfl (lv_room (Nat.le_of_ble_eq_true rfl)) dX8_reckons_1 ⟨Nat.le_of_ble_eq_true rfl, Nat.le_of_ble_eq_true rfl⟩) hA hP hD hS [] [0, 1] rfl rfl (by decide) (by decide) (fun r_19 u_r_19 H locs wr_19 hP hD hS => ?_)
  have hP : va_P D vwCl [(m0, .inr (8, [.ref mH, .int aM, .long aC, .int mM, .long mQ, .int oV, .int pL, .int lI, .int sW, .int dP, .int sT, .long aT, .int cH, .int iW, .ref mI, .ref mJ, .ref mS, .ref mD, .int iH, .int aE, .int mN, .long sZ, .ref mX, .int tS, .int tA, .int tW, .ref mA, .ref mB, .ref mW, .ref mL, .int lS])), (mH, .inl (cI, 512, .inl fH))] H := hP
  have hD : va_D A [(m0, .inr (8, [.ref mH, .int aM, .long aC, .int mM, .long mQ, .int oV, .int pL, .int lI, .int sW, .int dP, .int sT, .long aT, .int cH, .int iW, .ref mI, .ref mJ, .ref mS, .ref mD, .int iH, .int aE, .int mN, .long sZ, .ref mX, .int tS, .int tA, .int tW, .ref mA, .ref mB, .ref mW, .ref mL, .int lS])), (mH, .inl (cI, 512, .inl fH))] := hD
  try dsimp only at wr_19
  subst wr_19
  refine lv_if_eq (tgt := 11) hx hb dX8_reckons_4 (by decide) (fun c_4_19 => ?_) (fun c_4_19 => ?_)
  · have t_4_19 := c_4_19
    try simp only [kb_eq0, kb_ne0, lg_cmp_lt, lg_cmp_le, lg_cmp_gt, lg_cmp_ge, lg_cmp_eq] at t_4_19
    try simp only [Int32.lt_iff_toInt_lt, Int32.le_iff_toInt_le, ← Int32.toInt_inj, Int64.lt_iff_toInt_lt, Int64.le_iff_toInt_le, ← Int64.toInt_inj, Int32.toInt_toInt64, Int32.reduceToInt, Int64.reduceToInt] at t_4_19
    exact J11 mN sZ (by first | with_reducible assumption | ((try simp only [jT_, jP_, jD_, jC_, jB_, jW_, Int32.reduceToInt, Int64.reduceToInt, true_or, or_true, true_and, and_true]) <;> omega)) _ _ (hP.sub [0, 1] rfl) (hD.sub [0, 1] (by decide) rfl) hS ls (lv_sub hl [0, 1] rfl)
  · have t_4_19 := c_4_19
    try simp only [kb_eq0, kb_ne0, lg_cmp_lt, lg_cmp_le, lg_cmp_gt, lg_cmp_ge, lg_cmp_eq] at t_4_19
    try simp only [Int32.lt_iff_toInt_lt, Int32.le_iff_toInt_le, ← Int32.toInt_inj, Int64.lt_iff_toInt_lt, Int64.le_iff_toInt_le, ← Int64.toInt_inj, Int32.toInt_toInt64, Int32.reduceToInt, Int64.reduceToInt] at t_4_19
    refine lv_aload_n hx hb dX8_reckons_7 rfl (lv_at hl 0 rfl) ?_
    refine kCallVd (wr := []) (va_runV (As := []) (rest := []) ⟨hx, hb, hml, hown, hts⟩ (q_operand l D cI cL cB cZ cT _ m0 mH mI mJ mS mD mX mA mB mW mL aM aC mM mQ oV pL lI sW dP sT aT cH iW iH aE mN sZ tS tA tW lS fH (by have h8 := hadw (by first | omega | decide); omega)) (cwV 0 hts gX8_reckons_X8_operand rfl rfl rfl (by decide +kernel) ⟨Nat.le_of_ble_eq_true rfl, Nat.le_of_ble_eq_true rfl⟩) (kPreV hG hP hD [0, 1] rfl (by decide) 0 8 rfl rfl rfl) rfl rfl hl.1 rfl (lv_room (Nat.le_of_ble_eq_true rfl)) dX8_reckons_8 ⟨Nat.le_of_ble_eq_true rfl, Nat.le_of_ble_eq_true rfl⟩) hA hP hD hS [0, 1] [] rfl rfl (by decide) (by decide) (fun _ u_r_21 H locs wr_21 hP hD hS => ?_)
    have hP : va_P D vwCl [(m0, .inr (8, [.ref mH, .int aM, .long aC, .int mM, .long mQ, .int oV, .int pL, .int lI, .int sW, .int dP, .int sT, .long aT, .int cH, .int iW, .ref mI, .ref mJ, .ref mS, .ref mD, .int iH, .int aE, .int u_r_21.1, .long u_r_21.2, .ref mX, .int tS, .int tA, .int tW, .ref mA, .ref mB, .ref mW, .ref mL, .int lS])), (mH, .inl (cI, 512, .inl fH))] H := hP
    have hD : va_D A [(m0, .inr (8, [.ref mH, .int aM, .long aC, .int mM, .long mQ, .int oV, .int pL, .int lI, .int sW, .int dP, .int sT, .long aT, .int cH, .int iW, .ref mI, .ref mJ, .ref mS, .ref mD, .int iH, .int aE, .int u_r_21.1, .long u_r_21.2, .ref mX, .int tS, .int tA, .int tW, .ref mA, .ref mB, .ref mW, .ref mL, .int lS])), (mH, .inl (cI, 512, .inl fH))] := hD
    try dsimp only at wr_21
    try simp only [Int32.reduceToInt, Int64.reduceToInt] at wr_21
    exact J11 u_r_21.1 u_r_21.2 (by first | with_reducible assumption | ((try simp only [jT_, jP_, jD_, jC_, jB_, jW_, Int32.reduceToInt, Int64.reduceToInt, true_or, or_true, true_and, and_true]) <;> omega)) _ _ (hP.sub [0, 1] rfl) (hD.sub [0, 1] (by decide) rfl) hS ls (lv_sub hl [0, 1] rfl)
