set_option maxRecDepth 100000 in
theorem iX8_senses_X8 : ∀ w ∈ wsX80, w ∈ wsX8_senses := fun w h => (goodIn_r (big := wsX8_senses) wsX80 [14, 15, 16, 17, 18, 19, 20, 21, 22, 23, 24, 25, 26, 27, 28, 29, 30, 31, 32, 33, 34, 35, 36, 37, 38, 39, 40, 41, 42, 43, 44] rfl (by decide +kernel) w h).1
set_option maxRecDepth 100000 in
set_option maxHeartbeats 4000000 in
theorem q_senses (l : Launch) (D : va_G) (cI cL cB cZ cT : ClassId) (sz : Nat) (m0 mH mI mJ mS mD mX mA mB mW mL : Nat) (aM : Int32) (aC : Int64) (mM : Int32) (mQ : Int64) (oV pL lI sW dP sT : Int32) (aT : Int64) (cH iW iH aE mN : Int32) (sZ : Int64) (tS tA tW lS : Int32) (a : Int32) (hpl : jP_ pL) : kM (S := (Int32 × Int32)) l yX8_senses wsX8_senses ({ frames := 1, cells := 0, slots := 0, locals := 25 }) D (kT cI cL cB cZ cT) [.ref m0, .int a] [(m0, .inr (8, [.ref mH, .int aM, .long aC, .int mM, .long mQ, .int oV, .int pL, .int lI, .int sW, .int dP, .int sT, .long aT, .int cH, .int iW, .ref mI, .ref mJ, .ref mS, .ref mD, .int iH, .int aE, .int mN, .long sZ, .ref mX, .int tS, .int tA, .int tW, .ref mA, .ref mB, .ref mW, .ref mL, .int lS]))] sz eI (fun r u => (0 ≤ r.toInt ∧ r.toInt ≤ 6) ∧ jP_ (u.1)) (fun u => [(m0, .inr (8, [.ref mH, .int aM, .long aC, .int mM, .long mQ, .int oV, .int u.1, .int u.2, .int sW, .int dP, .int sT, .long aT, .int cH, .int iW, .ref mI, .ref mJ, .ref mS, .ref mD, .int iH, .int aE, .int mN, .long sZ, .ref mX, .int tS, .int tA, .int tW, .ref mA, .ref mB, .ref mW, .ref mL, .int lS]))]) 0 0 := by
  refine kStart (cc := cX8_senses) (maxL := 2) (ret := (some .int)) (own := RX8) (by decide) rfl rfl (Nat.le_of_ble_eq_true rfl) ?_
  intro p e s m args below meth c A ls hx hb hr hml hown hts hlocks hnm hsz hA hG hP hD hS hl
  have hK := hG.1
  have hl : lv_has ls 2 [(0, .ref m0), (1, .int a)] := hl
  refine lv_iload_n hx hb dX8_senses_0 rfl (lv_at hl 1 rfl) ?_
  refine lv_i2l hx hb dX8_senses_1 rfl ?_
  refine lv_ldc2 (v := 64) hx hb hown (hts (.constantLong RX8 221 (64)) (List.mem_of_getElem? (i := 1) rfl)) dX8_senses_2 ?_
  refine lv_ldc2 (v := 76) hx hb hown (hts (.constantLong RX8 223 (76)) (List.mem_of_getElem? (i := 2) rfl)) dX8_senses_5 ?_
  refine kCallI (wr := [(m0, .inr (8, [.ref mH, .int aM, .long aC, .int mM, .long mQ, .int oV, .int pL, .int lI, .int sW, .int dP, .int sT, .long aT, .int cH, .int iW, .ref mI, .ref mJ, .ref mS, .ref mD, .int iH, .int aE, .int mN, .long sZ, .ref mX, .int tS, .int tA, .int tW, .ref mA, .ref mB, .ref mW, .ref mL, .int lS]))]) (va_runS (As := [.long a.toInt64, .long 64, .long 76]) (rest := []) ⟨hx, hb, hml, hown, hts⟩ (q_in l D cI cL cB cZ cT _ (a.toInt64) 64 76) (va_cwS 3 hts gX8_senses_X8_in rfl rfl rfl (by decide +kernel) ⟨Nat.le_of_ble_eq_true rfl, Nat.le_of_ble_eq_true rfl⟩) (kPreS hG hP hD [] rfl (by decide)) rfl rfl hl.1 rfl (lv_room (Nat.le_of_ble_eq_true rfl)) dX8_senses_8 ⟨Nat.le_of_ble_eq_true rfl, Nat.le_of_ble_eq_true rfl⟩) hA hP hD hS [] [0] rfl rfl (by decide) (by decide) (fun r_1 u_r_1 H locs wr_1 hP hD hS => ?_)
  have hP : va_P D vwCl [(m0, .inr (8, [.ref mH, .int aM, .long aC, .int mM, .long mQ, .int oV, .int pL, .int lI, .int sW, .int dP, .int sT, .long aT, .int cH, .int iW, .ref mI, .ref mJ, .ref mS, .ref mD, .int iH, .int aE, .int mN, .long sZ, .ref mX, .int tS, .int tA, .int tW, .ref mA, .ref mB, .ref mW, .ref mL, .int lS]))] H := hP
  have hD : va_D A [(m0, .inr (8, [.ref mH, .int aM, .long aC, .int mM, .long mQ, .int oV, .int pL, .int lI, .int sW, .int dP, .int sT, .long aT, .int cH, .int iW, .ref mI, .ref mJ, .ref mS, .ref mD, .int iH, .int aE, .int mN, .long sZ, .ref mX, .int tS, .int tA, .int tW, .ref mA, .ref mB, .ref mW, .ref mL, .int lS]))] := hD
  try dsimp only at wr_1
  subst wr_1
  refine lv_if_ne (tgt := 16) hx hb dX8_senses_11 (by decide) (fun c_11_1 => ?_) (fun c_11_1 => ?_)
  · have t_11_1 := c_11_1
    try simp only [kb_eq0, kb_ne0, lg_cmp_lt, lg_cmp_le, lg_cmp_gt, lg_cmp_ge, lg_cmp_eq] at t_11_1
    try simp only [Int32.lt_iff_toInt_lt, Int32.le_iff_toInt_le, ← Int32.toInt_inj, Int64.lt_iff_toInt_lt, Int64.le_iff_toInt_le, ← Int64.toInt_inj, Int32.toInt_toInt64, Int32.reduceToInt, Int64.reduceToInt] at t_11_1
    refine lv_iload_n hx hb dX8_senses_16 rfl (lv_at hl 1 rfl) ?_
    refine lv_bipush (v := 64) hx hb dX8_senses_17 (by decide) ?_
    refine lv_icmp_ne (tgt := 30) hx hb dX8_senses_19 (by decide) (fun c_19_2 => ?_) (fun c_19_2 => ?_)
    · have t_19_2 := c_19_2
      try simp only [kb_eq0, kb_ne0, lg_cmp_lt, lg_cmp_le, lg_cmp_gt, lg_cmp_ge, lg_cmp_eq] at t_19_2
      try simp only [Int32.lt_iff_toInt_lt, Int32.le_iff_toInt_le, ← Int32.toInt_inj, Int64.lt_iff_toInt_lt, Int64.le_iff_toInt_le, ← Int64.toInt_inj, Int32.toInt_toInt64, Int32.reduceToInt, Int64.reduceToInt] at t_19_2
      refine lv_iload_n hx hb dX8_senses_30 rfl (lv_at hl 1 rfl) ?_
      refine lv_bipush (v := 69) hx hb dX8_senses_31 (by decide) ?_
      refine lv_icmp_ge (tgt := 54) hx hb dX8_senses_33 (by decide) (fun c_33_3 => ?_) (fun c_33_3 => ?_)
      · have t_33_3 := c_33_3
        try simp only [kb_eq0, kb_ne0, lg_cmp_lt, lg_cmp_le, lg_cmp_gt, lg_cmp_ge, lg_cmp_eq] at t_33_3
        try simp only [Int32.lt_iff_toInt_lt, Int32.le_iff_toInt_le, ← Int32.toInt_inj, Int64.lt_iff_toInt_lt, Int64.le_iff_toInt_le, ← Int64.toInt_inj, Int32.toInt_toInt64, Int32.reduceToInt, Int64.reduceToInt] at t_33_3
        refine lv_iload_n hx hb dX8_senses_54 rfl (lv_at hl 1 rfl) ?_
        refine lv_bipush (v := 73) hx hb dX8_senses_55 (by decide) ?_
        refine lv_icmp_ge (tgt := 78) hx hb dX8_senses_57 (by decide) (fun c_57_4 => ?_) (fun c_57_4 => ?_)
        · have t_57_4 := c_57_4
          try simp only [kb_eq0, kb_ne0, lg_cmp_lt, lg_cmp_le, lg_cmp_gt, lg_cmp_ge, lg_cmp_eq] at t_57_4
          try simp only [Int32.lt_iff_toInt_lt, Int32.le_iff_toInt_le, ← Int32.toInt_inj, Int64.lt_iff_toInt_lt, Int64.le_iff_toInt_le, ← Int64.toInt_inj, Int32.toInt_toInt64, Int32.reduceToInt, Int64.reduceToInt] at t_57_4
          refine lv_aload_n hx hb dX8_senses_78 rfl (lv_at hl 0 rfl) ?_
          refine lv_aload_n hx hb dX8_senses_79 rfl (lv_at hl 0 rfl) ?_
          refine va_get (D := D) (ci := 8) (v := .int lI) (C := RX8) (T := TX8) (N := 31) hx hb hts iX8_senses_X8 hown hK hP 0 rfl rfl 7 (by decide) (hts (.fieldLink RX8 81 "TapeCalculatorModel" "lights" "I") (List.mem_of_getElem? (i := 3) rfl)) (fun _ h9 => h9) rfl dX8_senses_80 ?_
          refine lv_iload_n hx hb dX8_senses_83 rfl (lv_at hl 1 rfl) ?_
          refine lv_bipush (v := 73) hx hb dX8_senses_84 (by decide) ?_
          refine lv_isub hx hb dX8_senses_86 ?_
          refine lv_ishr hx hb dX8_senses_87 ?_
          refine lv_iconst (v := 1) hx hb dX8_senses_88 (by decide) ?_
          refine lv_iand hx hb dX8_senses_89 ?_
          refine kCallVd (wr := []) (va_runV (As := [.int ((lI >>> ((a - 73) &&& 31)) &&& 1)]) (rest := []) ⟨hx, hb, hml, hown, hts⟩ (q_go l D cI cL cB cZ cT _ m0 mH mI mJ mS mD mX mA mB mW mL aM aC mM mQ oV pL lI sW dP sT aT cH iW iH aE mN sZ tS tA tW lS ((lI >>> ((a - 73) &&& 31)) &&& 1)) (cwV 1 hts gX8_senses_X8_go rfl rfl rfl (by decide +kernel) ⟨Nat.le_of_ble_eq_true rfl, Nat.le_of_ble_eq_true rfl⟩) (kPreV hG hP hD [0] rfl (by decide) 0 8 rfl rfl rfl) rfl rfl hl.1 rfl (lv_room (Nat.le_of_ble_eq_true rfl)) dX8_senses_90 ⟨Nat.le_of_ble_eq_true rfl, Nat.le_of_ble_eq_true rfl⟩) hA hP hD hS [0] [] rfl rfl (by decide) (by decide) (fun _ u_r_6 H locs wr_6 hP hD hS => ?_)
          have hP : va_P D vwCl [(m0, .inr (8, [.ref mH, .int aM, .long aC, .int mM, .long mQ, .int oV, .int u_r_6, .int lI, .int sW, .int dP, .int sT, .long aT, .int cH, .int iW, .ref mI, .ref mJ, .ref mS, .ref mD, .int iH, .int aE, .int mN, .long sZ, .ref mX, .int tS, .int tA, .int tW, .ref mA, .ref mB, .ref mW, .ref mL, .int lS]))] H := hP
          have hD : va_D A [(m0, .inr (8, [.ref mH, .int aM, .long aC, .int mM, .long mQ, .int oV, .int u_r_6, .int lI, .int sW, .int dP, .int sT, .long aT, .int cH, .int iW, .ref mI, .ref mJ, .ref mS, .ref mD, .int iH, .int aE, .int mN, .long sZ, .ref mX, .int tS, .int tA, .int tW, .ref mA, .ref mB, .ref mW, .ref mL, .int lS]))] := hD
          try dsimp only at wr_6
          try simp only [Int32.reduceToInt, Int64.reduceToInt] at wr_6
          refine lv_aload_n hx hb dX8_senses_93 rfl (lv_at hl 0 rfl) ?_
          refine lv_dup hx hb dX8_senses_94 rfl ?_
          refine va_get (D := D) (ci := 8) (v := .int lI) (C := RX8) (T := TX8) (N := 31) hx hb hts iX8_senses_X8 hown hK hP 0 rfl rfl 7 (by decide) (hts (.fieldLink RX8 81 "TapeCalculatorModel" "lights" "I") (List.mem_of_getElem? (i := 3) rfl)) (fun _ h9 => h9) rfl dX8_senses_95 ?_
          refine lv_iconst (v := 1) hx hb dX8_senses_98 (by decide) ?_
          refine lv_iload_n hx hb dX8_senses_99 rfl (lv_at hl 1 rfl) ?_
          refine lv_bipush (v := 73) hx hb dX8_senses_100 (by decide) ?_
          refine lv_isub hx hb dX8_senses_102 ?_
          refine lv_ishl hx hb dX8_senses_103 ?_
          refine lv_iconst (v := (-1)) hx hb dX8_senses_104 (by decide) ?_
          refine lv_ixor hx hb dX8_senses_105 ?_
          refine lv_iand hx hb dX8_senses_106 ?_
          refine lv_topi (fun x_7 ex_7 => ?_)
          refine va_put (D := D) (ci := 8) (v := .int x_7) (ty := .int) (C := RX8) (T := TX8) (N := 31) hx hb hts iX8_senses_X8 tyX8 tyX8_ok nmX8 hown hK hP hD hS 0 rfl rfl 7 (by decide) (hts (.fieldLink RX8 81 "TapeCalculatorModel" "lights" "I") (List.mem_of_getElem? (i := 3) rfl)) (fun _ h9 => h9) rfl (by decide +kernel) rfl rfl (Nat.le_of_ble_eq_true rfl) dX8_senses_107 (fun H locs hP hD hS => ?_)
          have hP : va_P D vwCl [(m0, .inr (8, [.ref mH, .int aM, .long aC, .int mM, .long mQ, .int oV, .int u_r_6, .int x_7, .int sW, .int dP, .int sT, .long aT, .int cH, .int iW, .ref mI, .ref mJ, .ref mS, .ref mD, .int iH, .int aE, .int mN, .long sZ, .ref mX, .int tS, .int tA, .int tW, .ref mA, .ref mB, .ref mW, .ref mL, .int lS]))] H := hP
          have hD : va_D A [(m0, .inr (8, [.ref mH, .int aM, .long aC, .int mM, .long mQ, .int oV, .int u_r_6, .int x_7, .int sW, .int dP, .int sT, .long aT, .int cH, .int iW, .ref mI, .ref mJ, .ref mS, .ref mD, .int iH, .int aE, .int mN, .long sZ, .ref mX, .int tS, .int tA, .int tW, .ref mA, .ref mB, .ref mW, .ref mL, .int lS]))] := hD
          refine lv_iconst (v := 0) hx hb dX8_senses_110 (by decide) ?_
          refine kIret (u := (u_r_6, x_7)) hx hb hr rfl hlocks hS dX8_senses_111 ?_ (hP.sub [0] rfl) (hD.sub [0] (by decide) rfl)
          try dsimp only
          repeat' (with_reducible apply And.intro)
          all_goals first | with_reducible assumption | ((try simp only [jT_, jP_, jD_, jC_, jB_, jW_, Int32.reduceToInt, Int64.reduceToInt, true_or, or_true, true_and, and_true]) <;> omega)
        · have t_57_4 := c_57_4
          try simp only [kb_eq0, kb_ne0, lg_cmp_lt, lg_cmp_le, lg_cmp_gt, lg_cmp_ge, lg_cmp_eq] at t_57_4
          try simp only [Int32.lt_iff_toInt_lt, Int32.le_iff_toInt_le, ← Int32.toInt_inj, Int64.lt_iff_toInt_lt, Int64.le_iff_toInt_le, ← Int64.toInt_inj, Int32.toInt_toInt64, Int32.reduceToInt, Int64.reduceToInt] at t_57_4
          refine lv_aload_n hx hb dX8_senses_60 rfl (lv_at hl 0 rfl) ?_
          refine lv_aload_n hx hb dX8_senses_61 rfl (lv_at hl 0 rfl) ?_
          refine va_get (D := D) (ci := 8) (v := .int sW) (C := RX8) (T := TX8) (N := 31) hx hb hts iX8_senses_X8 hown hK hP 0 rfl rfl 8 (by decide) (hts (.fieldLink RX8 98 "TapeCalculatorModel" "switches" "I") (List.mem_of_getElem? (i := 4) rfl)) (fun _ h9 => h9) rfl dX8_senses_62 ?_
          refine lv_iload_n hx hb dX8_senses_65 rfl (lv_at hl 1 rfl) ?_
          refine lv_bipush (v := 69) hx hb dX8_senses_66 (by decide) ?_
          refine lv_isub hx hb dX8_senses_68 ?_
          refine lv_ishr hx hb dX8_senses_69 ?_
          refine lv_iconst (v := 1) hx hb dX8_senses_70 (by decide) ?_
          refine lv_iand hx hb dX8_senses_71 ?_
          refine kCallVd (wr := []) (va_runV (As := [.int ((sW >>> ((a - 69) &&& 31)) &&& 1)]) (rest := []) ⟨hx, hb, hml, hown, hts⟩ (q_go l D cI cL cB cZ cT _ m0 mH mI mJ mS mD mX mA mB mW mL aM aC mM mQ oV pL lI sW dP sT aT cH iW iH aE mN sZ tS tA tW lS ((sW >>> ((a - 69) &&& 31)) &&& 1)) (cwV 1 hts gX8_senses_X8_go rfl rfl rfl (by decide +kernel) ⟨Nat.le_of_ble_eq_true rfl, Nat.le_of_ble_eq_true rfl⟩) (kPreV hG hP hD [0] rfl (by decide) 0 8 rfl rfl rfl) rfl rfl hl.1 rfl (lv_room (Nat.le_of_ble_eq_true rfl)) dX8_senses_72 ⟨Nat.le_of_ble_eq_true rfl, Nat.le_of_ble_eq_true rfl⟩) hA hP hD hS [0] [] rfl rfl (by decide) (by decide) (fun _ u_r_8 H locs wr_8 hP hD hS => ?_)
          have hP : va_P D vwCl [(m0, .inr (8, [.ref mH, .int aM, .long aC, .int mM, .long mQ, .int oV, .int u_r_8, .int lI, .int sW, .int dP, .int sT, .long aT, .int cH, .int iW, .ref mI, .ref mJ, .ref mS, .ref mD, .int iH, .int aE, .int mN, .long sZ, .ref mX, .int tS, .int tA, .int tW, .ref mA, .ref mB, .ref mW, .ref mL, .int lS]))] H := hP
          have hD : va_D A [(m0, .inr (8, [.ref mH, .int aM, .long aC, .int mM, .long mQ, .int oV, .int u_r_8, .int lI, .int sW, .int dP, .int sT, .long aT, .int cH, .int iW, .ref mI, .ref mJ, .ref mS, .ref mD, .int iH, .int aE, .int mN, .long sZ, .ref mX, .int tS, .int tA, .int tW, .ref mA, .ref mB, .ref mW, .ref mL, .int lS]))] := hD
          try dsimp only at wr_8
          try simp only [Int32.reduceToInt, Int64.reduceToInt] at wr_8
          refine lv_goto (tgt := 110) hx hb dX8_senses_75 (by decide) ?_
          refine lv_iconst (v := 0) hx hb dX8_senses_110 (by decide) ?_
          refine kIret (u := (u_r_8, lI)) hx hb hr rfl hlocks hS dX8_senses_111 ?_ (hP.sub [0] rfl) (hD.sub [0] (by decide) rfl)
          try dsimp only
          repeat' (with_reducible apply And.intro)
          all_goals first | with_reducible assumption | ((try simp only [jT_, jP_, jD_, jC_, jB_, jW_, Int32.reduceToInt, Int64.reduceToInt, true_or, or_true, true_and, and_true]) <;> omega)
      · have t_33_3 := c_33_3
        try simp only [kb_eq0, kb_ne0, lg_cmp_lt, lg_cmp_le, lg_cmp_gt, lg_cmp_ge, lg_cmp_eq] at t_33_3
        try simp only [Int32.lt_iff_toInt_lt, Int32.le_iff_toInt_le, ← Int32.toInt_inj, Int64.lt_iff_toInt_lt, Int64.le_iff_toInt_le, ← Int64.toInt_inj, Int32.toInt_toInt64, Int32.reduceToInt, Int64.reduceToInt] at t_33_3
        refine lv_aload_n hx hb dX8_senses_36 rfl (lv_at hl 0 rfl) ?_
        refine lv_dup hx hb dX8_senses_37 rfl ?_
        refine va_get (D := D) (ci := 8) (v := .int lI) (C := RX8) (T := TX8) (N := 31) hx hb hts iX8_senses_X8 hown hK hP 0 rfl rfl 7 (by decide) (hts (.fieldLink RX8 81 "TapeCalculatorModel" "lights" "I") (List.mem_of_getElem? (i := 3) rfl)) (fun _ h9 => h9) rfl dX8_senses_38 ?_
        refine lv_iconst (v := 1) hx hb dX8_senses_41 (by decide) ?_
        refine lv_iload_n hx hb dX8_senses_42 rfl (lv_at hl 1 rfl) ?_
        refine lv_bipush (v := 65) hx hb dX8_senses_43 (by decide) ?_
        refine lv_isub hx hb dX8_senses_45 ?_
        refine lv_ishl hx hb dX8_senses_46 ?_
        refine lv_ior hx hb dX8_senses_47 ?_
        refine lv_topi (fun x_9 ex_9 => ?_)
        refine va_put (D := D) (ci := 8) (v := .int x_9) (ty := .int) (C := RX8) (T := TX8) (N := 31) hx hb hts iX8_senses_X8 tyX8 tyX8_ok nmX8 hown hK hP hD hS 0 rfl rfl 7 (by decide) (hts (.fieldLink RX8 81 "TapeCalculatorModel" "lights" "I") (List.mem_of_getElem? (i := 3) rfl)) (fun _ h9 => h9) rfl (by decide +kernel) rfl rfl (Nat.le_of_ble_eq_true rfl) dX8_senses_48 (fun H locs hP hD hS => ?_)
        have hP : va_P D vwCl [(m0, .inr (8, [.ref mH, .int aM, .long aC, .int mM, .long mQ, .int oV, .int pL, .int x_9, .int sW, .int dP, .int sT, .long aT, .int cH, .int iW, .ref mI, .ref mJ, .ref mS, .ref mD, .int iH, .int aE, .int mN, .long sZ, .ref mX, .int tS, .int tA, .int tW, .ref mA, .ref mB, .ref mW, .ref mL, .int lS]))] H := hP
        have hD : va_D A [(m0, .inr (8, [.ref mH, .int aM, .long aC, .int mM, .long mQ, .int oV, .int pL, .int x_9, .int sW, .int dP, .int sT, .long aT, .int cH, .int iW, .ref mI, .ref mJ, .ref mS, .ref mD, .int iH, .int aE, .int mN, .long sZ, .ref mX, .int tS, .int tA, .int tW, .ref mA, .ref mB, .ref mW, .ref mL, .int lS]))] := hD
        refine lv_goto (tgt := 110) hx hb dX8_senses_51 (by decide) ?_
        refine lv_iconst (v := 0) hx hb dX8_senses_110 (by decide) ?_
        refine kIret (u := (pL, x_9)) hx hb hr rfl hlocks hS dX8_senses_111 ?_ (hP.sub [0] rfl) (hD.sub [0] (by decide) rfl)
        try dsimp only
        repeat' (with_reducible apply And.intro)
        all_goals first | with_reducible assumption | ((try simp only [jT_, jP_, jD_, jC_, jB_, jW_, Int32.reduceToInt, Int64.reduceToInt, true_or, or_true, true_and, and_true]) <;> omega)
    · have t_19_2 := c_19_2
      try simp only [kb_eq0, kb_ne0, lg_cmp_lt, lg_cmp_le, lg_cmp_gt, lg_cmp_ge, lg_cmp_eq] at t_19_2
      try simp only [Int32.lt_iff_toInt_lt, Int32.le_iff_toInt_le, ← Int32.toInt_inj, Int64.lt_iff_toInt_lt, Int64.le_iff_toInt_le, ← Int64.toInt_inj, Int32.toInt_toInt64, Int32.reduceToInt, Int64.reduceToInt] at t_19_2
      refine lv_aload_n hx hb dX8_senses_22 rfl (lv_at hl 0 rfl) ?_
      refine lv_iconst (v := 0) hx hb dX8_senses_23 (by decide) ?_
      refine va_put (D := D) (ci := 8) (v := .int 0) (ty := .int) (C := RX8) (T := TX8) (N := 31) hx hb hts iX8_senses_X8 tyX8 tyX8_ok nmX8 hown hK hP hD hS 0 rfl rfl 7 (by decide) (hts (.fieldLink RX8 81 "TapeCalculatorModel" "lights" "I") (List.mem_of_getElem? (i := 3) rfl)) (fun _ h9 => h9) rfl (by decide +kernel) rfl rfl (Nat.le_of_ble_eq_true rfl) dX8_senses_24 (fun H locs hP hD hS => ?_)
      have hP : va_P D vwCl [(m0, .inr (8, [.ref mH, .int aM, .long aC, .int mM, .long mQ, .int oV, .int pL, .int 0, .int sW, .int dP, .int sT, .long aT, .int cH, .int iW, .ref mI, .ref mJ, .ref mS, .ref mD, .int iH, .int aE, .int mN, .long sZ, .ref mX, .int tS, .int tA, .int tW, .ref mA, .ref mB, .ref mW, .ref mL, .int lS]))] H := hP
      have hD : va_D A [(m0, .inr (8, [.ref mH, .int aM, .long aC, .int mM, .long mQ, .int oV, .int pL, .int 0, .int sW, .int dP, .int sT, .long aT, .int cH, .int iW, .ref mI, .ref mJ, .ref mS, .ref mD, .int iH, .int aE, .int mN, .long sZ, .ref mX, .int tS, .int tA, .int tW, .ref mA, .ref mB, .ref mW, .ref mL, .int lS]))] := hD
      refine lv_goto (tgt := 110) hx hb dX8_senses_27 (by decide) ?_
      refine lv_iconst (v := 0) hx hb dX8_senses_110 (by decide) ?_
      refine kIret (u := (pL, 0)) hx hb hr rfl hlocks hS dX8_senses_111 ?_ (hP.sub [0] rfl) (hD.sub [0] (by decide) rfl)
      try dsimp only
      repeat' (with_reducible apply And.intro)
      all_goals first | with_reducible assumption | ((try simp only [jT_, jP_, jD_, jC_, jB_, jW_, Int32.reduceToInt, Int64.reduceToInt, true_or, or_true, true_and, and_true]) <;> omega)
  · have t_11_1 := c_11_1
    try simp only [kb_eq0, kb_ne0, lg_cmp_lt, lg_cmp_le, lg_cmp_gt, lg_cmp_ge, lg_cmp_eq] at t_11_1
    try simp only [Int32.lt_iff_toInt_lt, Int32.le_iff_toInt_le, ← Int32.toInt_inj, Int64.lt_iff_toInt_lt, Int64.le_iff_toInt_le, ← Int64.toInt_inj, Int32.toInt_toInt64, Int32.reduceToInt, Int64.reduceToInt] at t_11_1
    refine lv_iconst (v := 4) hx hb dX8_senses_14 (by decide) ?_
    refine kIret (u := (pL, lI)) hx hb hr rfl hlocks hS dX8_senses_15 ?_ (hP.sub [0] rfl) (hD.sub [0] (by decide) rfl)
    try dsimp only
    repeat' (with_reducible apply And.intro)
    all_goals first | with_reducible assumption | ((try simp only [jT_, jP_, jD_, jC_, jB_, jW_, Int32.reduceToInt, Int64.reduceToInt, true_or, or_true, true_and, and_true]) <;> omega)
set_option maxRecDepth 100000 in
theorem iX8_reaches_X8 : ∀ w ∈ wsX80, w ∈ wsX8_reaches := fun w h => (goodIn_r (big := wsX8_reaches) wsX80 [36, 37, 38, 39, 40, 41, 42, 43, 44, 45, 46, 47, 48, 49, 50, 51, 52, 53, 54, 55, 56, 57, 58, 59, 60, 61, 62, 63, 64, 65, 66] rfl (by decide +kernel) w h).1
set_option maxRecDepth 100000 in
set_option maxHeartbeats 4000000 in
theorem q_reaches (l : Launch) (D : va_G) (cI cL cB cZ cT : ClassId) (sz : Nat) (m0 mH mI mJ mS mD mX mA mB mW mL : Nat) (aM : Int32) (aC : Int64) (mM : Int32) (mQ : Int64) (oV pL lI sW dP sT : Int32) (aT : Int64) (cH iW iH aE mN : Int32) (sZ : Int64) (tS tA tW lS : Int32) (fI : Nat → Int64) (j0 j1 j2 j3 : Int32) (s0 s1 s2 s3 : Int32) (a b : Int32) (hpl : jP_ pL) (hdp : jD_ dP) (hch : jC_ cH) (hiw : jW_ iW cH) (ht0 : jT_ s0 j0) (ht1 : jT_ s1 j1) (ht2 : jT_ s2 j2) (ht3 : jT_ s3 j3) : kM (S := (Int32 × Int32 × Int32 × Int32 × Int32 × (Nat → Int64) × Int32 × Int32 × Int32 × Int32 × Int32 × Int32 × Int32 × Int32)) l yX8_reaches wsX8_reaches ({ frames := 2, cells := 0, slots := 0, locals := 46 }) D (kT cI cL cB cZ cT) [.ref m0, .int a, .int b] [(m0, .inr (8, [.ref mH, .int aM, .long aC, .int mM, .long mQ, .int oV, .int pL, .int lI, .int sW, .int dP, .int sT, .long aT, .int cH, .int iW, .ref mI, .ref mJ, .ref mS, .ref mD, .int iH, .int aE, .int mN, .long sZ, .ref mX, .int tS, .int tA, .int tW, .ref mA, .ref mB, .ref mW, .ref mL, .int lS])), (mI, .inl (cL, 1200, .inr (.inl fI))), (mJ, .inl (cI, 4, .inl (k4i j0 j1 j2 j3))), (mS, .inl (cI, 4, .inl (k4i s0 s1 s2 s3)))] sz eI (fun r u => (0 ≤ r.toInt ∧ r.toInt ≤ 6) ∧ jP_ (u.1) ∧ jD_ (u.2.2.1) ∧ jC_ (u.2.2.2.1) ∧ jW_ (u.2.2.2.2.1) (u.2.2.2.1) ∧ jT_ (u.2.2.2.2.2.2.2.2.2.2.1) (u.2.2.2.2.2.2.1) ∧ jT_ (u.2.2.2.2.2.2.2.2.2.2.2.1) (u.2.2.2.2.2.2.2.1) ∧ jT_ (u.2.2.2.2.2.2.2.2.2.2.2.2.1) (u.2.2.2.2.2.2.2.2.1) ∧ jT_ (u.2.2.2.2.2.2.2.2.2.2.2.2.2) (u.2.2.2.2.2.2.2.2.2.1)) (fun u => [(m0, .inr (8, [.ref mH, .int aM, .long aC, .int mM, .long mQ, .int oV, .int u.1, .int u.2.1, .int sW, .int u.2.2.1, .int sT, .long aT, .int u.2.2.2.1, .int u.2.2.2.2.1, .ref mI, .ref mJ, .ref mS, .ref mD, .int iH, .int aE, .int mN, .long sZ, .ref mX, .int tS, .int tA, .int tW, .ref mA, .ref mB, .ref mW, .ref mL, .int lS])), (mI, .inl (cL, 1200, .inr (.inl u.2.2.2.2.2.1))), (mJ, .inl (cI, 4, .inl (k4i u.2.2.2.2.2.2.1 u.2.2.2.2.2.2.2.1 u.2.2.2.2.2.2.2.2.1 u.2.2.2.2.2.2.2.2.2.1))), (mS, .inl (cI, 4, .inl (k4i u.2.2.2.2.2.2.2.2.2.2.1 u.2.2.2.2.2.2.2.2.2.2.2.1 u.2.2.2.2.2.2.2.2.2.2.2.2.1 u.2.2.2.2.2.2.2.2.2.2.2.2.2)))]) 0 0 := by
  refine kStart (cc := cX8_reaches) (maxL := 5) (ret := (some .int)) (own := RX8) (by decide) rfl rfl (Nat.le_of_ble_eq_true rfl) ?_
  intro p e s m args below meth c A ls hx hb hr hml hown hts hlocks hnm hsz hA hG hP hD hS hl
  have hK := hG.1
  have hl : lv_has ls 5 [(0, .ref m0), (1, .int a), (2, .int b)] := hl
  refine lv_iload_n hx hb dX8_reaches_0 rfl (lv_at hl 1 rfl) ?_
  refine lv_bipush (v := 30) hx hb dX8_reaches_1 (by decide) ?_
  refine lv_icmp_ne (tgt := 12) hx hb dX8_reaches_3 (by decide) (fun c_3_0 => ?_) (fun c_3_0 => ?_)
  · have t_3_0 := c_3_0
    try simp only [kb_eq0, kb_ne0, lg_cmp_lt, lg_cmp_le, lg_cmp_gt, lg_cmp_ge, lg_cmp_eq] at t_3_0
    try simp only [Int32.lt_iff_toInt_lt, Int32.le_iff_toInt_le, ← Int32.toInt_inj, Int64.lt_iff_toInt_lt, Int64.le_iff_toInt_le, ← Int64.toInt_inj, Int32.toInt_toInt64, Int32.reduceToInt, Int64.reduceToInt] at t_3_0
    refine lv_iload_n hx hb dX8_reaches_12 rfl (lv_at hl 1 rfl) ?_
    refine lv_bipush (v := 29) hx hb dX8_reaches_13 (by decide) ?_
    refine lv_icmp_ne (tgt := 40) hx hb dX8_reaches_15 (by decide) (fun c_15_1 => ?_) (fun c_15_1 => ?_)
    · have t_15_1 := c_15_1
      try simp only [kb_eq0, kb_ne0, lg_cmp_lt, lg_cmp_le, lg_cmp_gt, lg_cmp_ge, lg_cmp_eq] at t_15_1
      try simp only [Int32.lt_iff_toInt_lt, Int32.le_iff_toInt_le, ← Int32.toInt_inj, Int64.lt_iff_toInt_lt, Int64.le_iff_toInt_le, ← Int64.toInt_inj, Int32.toInt_toInt64, Int32.reduceToInt, Int64.reduceToInt] at t_15_1
      have J64 : ∀ (z : Int32), (z.toInt = 1 ∧ b.toInt = 128 ∧ (a.toInt = 24 ∨ a.toInt = 26)) ∨ z.toInt = 0 → ∀ (H : Heap) (locs : List Loc), va_P D vwCl [(m0, .inr (8, [.ref mH, .int aM, .long aC, .int mM, .long mQ, .int oV, .int pL, .int lI, .int sW, .int dP, .int sT, .long aT, .int cH, .int iW, .ref mI, .ref mJ, .ref mS, .ref mD, .int iH, .int aE, .int mN, .long sZ, .ref mX, .int tS, .int tA, .int tW, .ref mA, .ref mB, .ref mW, .ref mL, .int lS])), (mI, .inl (cL, 1200, .inr (.inl fI))), (mJ, .inl (cI, 4, .inl (k4i j0 j1 j2 j3))), (mS, .inl (cI, 4, .inl (k4i s0 s1 s2 s3)))] H → va_D A [(m0, .inr (8, [.ref mH, .int aM, .long aC, .int mM, .long mQ, .int oV, .int pL, .int lI, .int sW, .int dP, .int sT, .long aT, .int cH, .int iW, .ref mI, .ref mJ, .ref mS, .ref mD, .int iH, .int aE, .int mN, .long sZ, .ref mX, .int tS, .int tA, .int tW, .ref mA, .ref mB, .ref mW, .ref mL, .int lS])), (mI, .inl (cL, 1200, .inr (.inl fI))), (mJ, .inl (cI, 4, .inl (k4i j0 j1 j2 j3))), (mS, .inl (cI, 4, .inl (k4i s0 s1 s2 s3)))] → va_S A s.heap H locs → ∀ ls : Array Slot, lv_has ls 5 [(0, .ref m0), (1, .int a), (2, .int b)] → W p l e ({ frames := 2, cells := 0, slots := 0, locals := 46 }) s m args below meth c H locs 0 0 (MQ below (kQ (S := (Int32 × Int32 × Int32 × Int32 × Int32 × (Nat → Int64) × Int32 × Int32 × Int32 × Int32 × Int32 × Int32 × Int32 × Int32)) eI (fun r u => (0 ≤ r.toInt ∧ r.toInt ≤ 6) ∧ jP_ (u.1) ∧ jD_ (u.2.2.1) ∧ jC_ (u.2.2.2.1) ∧ jW_ (u.2.2.2.2.1) (u.2.2.2.1) ∧ jT_ (u.2.2.2.2.2.2.2.2.2.2.1) (u.2.2.2.2.2.2.1) ∧ jT_ (u.2.2.2.2.2.2.2.2.2.2.2.1) (u.2.2.2.2.2.2.2.1) ∧ jT_ (u.2.2.2.2.2.2.2.2.2.2.2.2.1) (u.2.2.2.2.2.2.2.2.1) ∧ jT_ (u.2.2.2.2.2.2.2.2.2.2.2.2.2) (u.2.2.2.2.2.2.2.2.2.1)) D (fun u => [(m0, .inr (8, [.ref mH, .int aM, .long aC, .int mM, .long mQ, .int oV, .int u.1, .int u.2.1, .int sW, .int u.2.2.1, .int sT, .long aT, .int u.2.2.2.1, .int u.2.2.2.2.1, .ref mI, .ref mJ, .ref mS, .ref mD, .int iH, .int aE, .int mN, .long sZ, .ref mX, .int tS, .int tA, .int tW, .ref mA, .ref mB, .ref mW, .ref mL, .int lS])), (mI, .inl (cL, 1200, .inr (.inl u.2.2.2.2.2.1))), (mJ, .inl (cI, 4, .inl (k4i u.2.2.2.2.2.2.1 u.2.2.2.2.2.2.2.1 u.2.2.2.2.2.2.2.2.1 u.2.2.2.2.2.2.2.2.2.1))), (mS, .inl (cI, 4, .inl (k4i u.2.2.2.2.2.2.2.2.2.2.1 u.2.2.2.2.2.2.2.2.2.2.2.1 u.2.2.2.2.2.2.2.2.2.2.2.2.1 u.2.2.2.2.2.2.2.2.2.2.2.2.2)))]) A) args s 0 0 A) (F0 m 64 ls [.int z]) := by
        intro z hz H locs hP hD hS ls hl
        refine lv_istore_n (lv' := [(3, .int z), (0, .ref m0), (1, .int a), (2, .int b)]) hx hb dX8_reaches_64 rfl hl (by decide) rfl (fun ls hl => ?_)
        refine lv_iload_n hx hb dX8_reaches_65 rfl (lv_at hl 0 rfl) ?_
        refine lv_if_ne (tgt := 85) hx hb dX8_reaches_66 (by decide) (fun c_66_2 => ?_) (fun c_66_2 => ?_)
        · have t_66_2 := c_66_2
          try simp only [kb_eq0, kb_ne0, lg_cmp_lt, lg_cmp_le, lg_cmp_gt, lg_cmp_ge, lg_cmp_eq] at t_66_2
          try simp only [Int32.lt_iff_toInt_lt, Int32.le_iff_toInt_le, ← Int32.toInt_inj, Int64.lt_iff_toInt_lt, Int64.le_iff_toInt_le, ← Int64.toInt_inj, Int32.toInt_toInt64, Int32.reduceToInt, Int64.reduceToInt] at t_66_2
          refine lv_aload_n hx hb dX8_reaches_85 rfl (lv_at hl 1 rfl) ?_
          refine kCallI (wr := []) (va_runV (As := []) (rest := []) ⟨hx, hb, hml, hown, hts⟩ (q_endsRecord l D cI cL cB cZ cT _ m0 mH mI mJ mS mD mX mA mB mW mL aM aC mM mQ oV pL lI sW dP sT aT cH iW iH aE mN sZ tS tA tW lS fI j0 j1 j2 j3 s0 s1 s2 s3 (by first | with_reducible assumption | ((try simp only [jT_, jP_, jD_, jC_, jB_, jW_, Int32.reduceToInt, Int64.reduceToInt, true_or, or_true, true_and, and_true]) <;> omega)) (by first | with_reducible assumption | ((try simp only [jT_, jP_, jD_, jC_, jB_, jW_, Int32.reduceToInt, Int64.reduceToInt, true_or, or_true, true_and, and_true]) <;> omega)) (by first | with_reducible assumption | ((try simp only [jT_, jP_, jD_, jC_, jB_, jW_, Int32.reduceToInt, Int64.reduceToInt, true_or, or_true, true_and, and_true]) <;> omega)) (by first | with_reducible assumption | ((try simp only [jT_, jP_, jD_, jC_, jB_, jW_, Int32.reduceToInt, Int64.reduceToInt, true_or, or_true, true_and, and_true]) <;> omega)) (by first | with_reducible assumption | ((try simp only [jT_, jP_, jD_, jC_, jB_, jW_, Int32.reduceToInt, Int64.reduceToInt, true_or, or_true, true_and, and_true]) <;> omega))) (cwV 0 hts gX8_reaches_X8_endsRecord rfl rfl rfl (by decide +kernel) ⟨Nat.le_of_ble_eq_true rfl, Nat.le_of_ble_eq_true rfl⟩) (kPreV hG hP hD [0, 1, 2, 3] rfl (by decide) 0 8 rfl rfl rfl) rfl rfl hl.1 rfl (lv_room (Nat.le_of_ble_eq_true rfl)) dX8_reaches_86 ⟨Nat.le_of_ble_eq_true rfl, Nat.le_of_ble_eq_true rfl⟩) hA hP hD hS [0, 1, 2, 3] [] rfl rfl (by decide) (by decide) (fun r_4 u_r_4 H locs wr_4 hP hD hS => ?_)
          have hP : va_P D vwCl [(m0, .inr (8, [.ref mH, .int aM, .long aC, .int mM, .long mQ, .int oV, .int pL, .int lI, .int sW, .int dP, .int sT, .long aT, .int cH, .int u_r_4.1, .ref mI, .ref mJ, .ref mS, .ref mD, .int iH, .int aE, .int mN, .long sZ, .ref mX, .int tS, .int tA, .int tW, .ref mA, .ref mB, .ref mW, .ref mL, .int lS])), (mI, .inl (cL, 1200, .inr (.inl u_r_4.2.1))), (mJ, .inl (cI, 4, .inl (k4i u_r_4.2.2.1 u_r_4.2.2.2.1 u_r_4.2.2.2.2.1 u_r_4.2.2.2.2.2.1))), (mS, .inl (cI, 4, .inl (k4i u_r_4.2.2.2.2.2.2.1 u_r_4.2.2.2.2.2.2.2.1 u_r_4.2.2.2.2.2.2.2.2.1 u_r_4.2.2.2.2.2.2.2.2.2)))] H := hP
          have hD : va_D A [(m0, .inr (8, [.ref mH, .int aM, .long aC, .int mM, .long mQ, .int oV, .int pL, .int lI, .int sW, .int dP, .int sT, .long aT, .int cH, .int u_r_4.1, .ref mI, .ref mJ, .ref mS, .ref mD, .int iH, .int aE, .int mN, .long sZ, .ref mX, .int tS, .int tA, .int tW, .ref mA, .ref mB, .ref mW, .ref mL, .int lS])), (mI, .inl (cL, 1200, .inr (.inl u_r_4.2.1))), (mJ, .inl (cI, 4, .inl (k4i u_r_4.2.2.1 u_r_4.2.2.2.1 u_r_4.2.2.2.2.1 u_r_4.2.2.2.2.2.1))), (mS, .inl (cI, 4, .inl (k4i u_r_4.2.2.2.2.2.2.1 u_r_4.2.2.2.2.2.2.2.1 u_r_4.2.2.2.2.2.2.2.2.1 u_r_4.2.2.2.2.2.2.2.2.2)))] := hD
          try dsimp only at wr_4
          try simp only [Int32.reduceToInt, Int64.reduceToInt] at wr_4
          obtain ⟨wr_4_0, wr_4_1, wr_4_2, wr_4_3, wr_4_4, wr_4_5, wr_4_6⟩ := wr_4
          refine lv_if_ne (tgt := 94) hx hb dX8_reaches_89 (by decide) (fun c_89_4 => ?_) (fun c_89_4 => ?_)
          · have t_89_4 := c_89_4
            try simp only [kb_eq0, kb_ne0, lg_cmp_lt, lg_cmp_le, lg_cmp_gt, lg_cmp_ge, lg_cmp_eq] at t_89_4
            try simp only [Int32.lt_iff_toInt_lt, Int32.le_iff_toInt_le, ← Int32.toInt_inj, Int64.lt_iff_toInt_lt, Int64.le_iff_toInt_le, ← Int64.toInt_inj, Int32.toInt_toInt64, Int32.reduceToInt, Int64.reduceToInt] at t_89_4
            have hz2 : z.toInt = 1 ∧ b.toInt = 128 ∧ (a.toInt = 24 ∨ a.toInt = 26) := by omega
            obtain rfl : z = 1 := k_inj (by simp only [Int32.reduceToInt]; omega)
            obtain rfl : b = 128 := k_inj (by simp only [Int32.reduceToInt]; omega)
            rcases (show a = 24 ∨ a = 26 by simp only [← Int32.toInt_inj, Int32.reduceToInt]; omega) with rfl | rfl
            · refine lv_iload_n hx hb dX8_reaches_94 rfl (lv_at hl 3 rfl) ?_
              refine lv_sipush (v := 256) hx hb dX8_reaches_95 (by decide) ?_
              refine lv_isub hx hb dX8_reaches_98 ?_
              refine lv_topi (fun x_6 ex_6 => ?_)
              obtain rfl : x_6 = (-128) := ex_6.trans (by decide)
              refine lv_istore (lv' := [(4, .int (-128)), (3, .int 1), (0, .ref m0), (1, .int 24), (2, .int 128)]) hx hb dX8_reaches_99 hl (by decide) rfl (fun ls hl => ?_)
              refine lv_iload_n hx hb dX8_reaches_101 rfl (lv_at hl 3 rfl) ?_
              refine lv_tableIn (tgt := 132) (off := 30) hx hb dX8_reaches_102 (by decide) (by decide) (by decide) (by decide) ?_
              refine lv_aload_n hx hb dX8_reaches_132 rfl (lv_at hl 2 rfl) ?_
              refine lv_iload_n hx hb dX8_reaches_133 rfl (lv_at hl 1 rfl) ?_
              refine lv_if_eq (tgt := 142) hx hb dX8_reaches_134 (by decide) (fun c_134_6 => ?_) (fun c_134_6 => ?_)
              · exact absurd c_134_6 (by decide)
              · have t_134_6 := c_134_6
                try simp only [kb_eq0, kb_ne0, lg_cmp_lt, lg_cmp_le, lg_cmp_gt, lg_cmp_ge, lg_cmp_eq] at t_134_6
                try simp only [Int32.lt_iff_toInt_lt, Int32.le_iff_toInt_le, ← Int32.toInt_inj, Int64.lt_iff_toInt_lt, Int64.le_iff_toInt_le, ← Int64.toInt_inj, Int32.toInt_toInt64, Int32.reduceToInt, Int64.reduceToInt] at t_134_6
                refine lv_bipush (v := 13) hx hb dX8_reaches_137 (by decide) ?_
                refine lv_goto (tgt := 146) hx hb dX8_reaches_139 (by decide) ?_
                refine va_put (D := D) (ci := 8) (v := .int 13) (ty := .int) (C := RX8) (T := TX8) (N := 31) hx hb hts iX8_reaches_X8 tyX8 tyX8_ok nmX8 hown hK hP hD hS 0 rfl rfl 12 (by decide) (hts (.fieldLink RX8 43 "TapeCalculatorModel" "chosen" "I") (List.mem_of_getElem? (i := 1) rfl)) (fun _ h9 => h9) rfl (by decide +kernel) rfl rfl (Nat.le_of_ble_eq_true rfl) dX8_reaches_146 (fun H locs hP hD hS => ?_)
                have hP : va_P D vwCl [(m0, .inr (8, [.ref mH, .int aM, .long aC, .int mM, .long mQ, .int oV, .int pL, .int lI, .int sW, .int dP, .int sT, .long aT, .int 13, .int u_r_4.1, .ref mI, .ref mJ, .ref mS, .ref mD, .int iH, .int aE, .int mN, .long sZ, .ref mX, .int tS, .int tA, .int tW, .ref mA, .ref mB, .ref mW, .ref mL, .int lS])), (mI, .inl (cL, 1200, .inr (.inl u_r_4.2.1))), (mJ, .inl (cI, 4, .inl (k4i u_r_4.2.2.1 u_r_4.2.2.2.1 u_r_4.2.2.2.2.1 u_r_4.2.2.2.2.2.1))), (mS, .inl (cI, 4, .inl (k4i u_r_4.2.2.2.2.2.2.1 u_r_4.2.2.2.2.2.2.2.1 u_r_4.2.2.2.2.2.2.2.2.1 u_r_4.2.2.2.2.2.2.2.2.2)))] H := hP
                have hD : va_D A [(m0, .inr (8, [.ref mH, .int aM, .long aC, .int mM, .long mQ, .int oV, .int pL, .int lI, .int sW, .int dP, .int sT, .long aT, .int 13, .int u_r_4.1, .ref mI, .ref mJ, .ref mS, .ref mD, .int iH, .int aE, .int mN, .long sZ, .ref mX, .int tS, .int tA, .int tW, .ref mA, .ref mB, .ref mW, .ref mL, .int lS])), (mI, .inl (cL, 1200, .inr (.inl u_r_4.2.1))), (mJ, .inl (cI, 4, .inl (k4i u_r_4.2.2.1 u_r_4.2.2.2.1 u_r_4.2.2.2.2.1 u_r_4.2.2.2.2.2.1))), (mS, .inl (cI, 4, .inl (k4i u_r_4.2.2.2.2.2.2.1 u_r_4.2.2.2.2.2.2.2.1 u_r_4.2.2.2.2.2.2.2.2.1 u_r_4.2.2.2.2.2.2.2.2.2)))] := hD
                refine lv_goto (tgt := 251) hx hb dX8_reaches_149 (by decide) ?_
                refine lv_iconst (v := 0) hx hb dX8_reaches_251 (by decide) ?_
                refine kIret (u := (pL, lI, dP, 13, u_r_4.1, u_r_4.2.1, u_r_4.2.2.1, u_r_4.2.2.2.1, u_r_4.2.2.2.2.1, u_r_4.2.2.2.2.2.1, u_r_4.2.2.2.2.2.2.1, u_r_4.2.2.2.2.2.2.2.1, u_r_4.2.2.2.2.2.2.2.2.1, u_r_4.2.2.2.2.2.2.2.2.2)) hx hb hr rfl hlocks hS dX8_reaches_252 ?_ (hP.sub [0, 1, 2, 3] rfl) (hD.sub [0, 1, 2, 3] (by decide) rfl)
                try dsimp only
                repeat' (with_reducible apply And.intro)
                all_goals first | with_reducible assumption | ((try simp only [jT_, jP_, jD_, jC_, jB_, jW_, Int32.reduceToInt, Int64.reduceToInt, true_or, or_true, true_and, and_true]) <;> omega)
            · refine lv_iload_n hx hb dX8_reaches_94 rfl (lv_at hl 3 rfl) ?_
              refine lv_sipush (v := 256) hx hb dX8_reaches_95 (by decide) ?_
              refine lv_isub hx hb dX8_reaches_98 ?_
              refine lv_topi (fun x_8 ex_8 => ?_)
              obtain rfl : x_8 = (-128) := ex_8.trans (by decide)
              refine lv_istore (lv' := [(4, .int (-128)), (3, .int 1), (0, .ref m0), (1, .int 26), (2, .int 128)]) hx hb dX8_reaches_99 hl (by decide) rfl (fun ls hl => ?_)
              refine lv_iload_n hx hb dX8_reaches_101 rfl (lv_at hl 3 rfl) ?_
              refine lv_tableIn (tgt := 163) (off := 61) hx hb dX8_reaches_102 (by decide) (by decide) (by decide) (by decide) ?_
              refine lv_iload_n hx hb dX8_reaches_163 rfl (lv_at hl 1 rfl) ?_
              refine lv_if_ne (tgt := 181) hx hb dX8_reaches_164 (by decide) (fun c_164_8 => ?_) (fun c_164_8 => ?_)
              · have t_164_8 := c_164_8
                try simp only [kb_eq0, kb_ne0, lg_cmp_lt, lg_cmp_le, lg_cmp_gt, lg_cmp_ge, lg_cmp_eq] at t_164_8
                try simp only [Int32.lt_iff_toInt_lt, Int32.le_iff_toInt_le, ← Int32.toInt_inj, Int64.lt_iff_toInt_lt, Int64.le_iff_toInt_le, ← Int64.toInt_inj, Int32.toInt_toInt64, Int32.reduceToInt, Int64.reduceToInt] at t_164_8
                refine lv_aload_n hx hb dX8_reaches_181 rfl (lv_at hl 2 rfl) ?_
                refine lv_iload_n hx hb dX8_reaches_182 rfl (lv_at hl 1 rfl) ?_
                refine lv_if_eq (tgt := 191) hx hb dX8_reaches_183 (by decide) (fun c_183_9 => ?_) (fun c_183_9 => ?_)
                · exact absurd c_183_9 (by decide)
                · have t_183_9 := c_183_9
                  try simp only [kb_eq0, kb_ne0, lg_cmp_lt, lg_cmp_le, lg_cmp_gt, lg_cmp_ge, lg_cmp_eq] at t_183_9
                  try simp only [Int32.lt_iff_toInt_lt, Int32.le_iff_toInt_le, ← Int32.toInt_inj, Int64.lt_iff_toInt_lt, Int64.le_iff_toInt_le, ← Int64.toInt_inj, Int32.toInt_toInt64, Int32.reduceToInt, Int64.reduceToInt] at t_183_9
                  refine lv_bipush (v := 14) hx hb dX8_reaches_186 (by decide) ?_
                  refine lv_goto (tgt := 196) hx hb dX8_reaches_188 (by decide) ?_
                  refine va_put (D := D) (ci := 8) (v := .int 14) (ty := .int) (C := RX8) (T := TX8) (N := 31) hx hb hts iX8_reaches_X8 tyX8 tyX8_ok nmX8 hown hK hP hD hS 0 rfl rfl 12 (by decide) (hts (.fieldLink RX8 43 "TapeCalculatorModel" "chosen" "I") (List.mem_of_getElem? (i := 1) rfl)) (fun _ h9 => h9) rfl (by decide +kernel) rfl rfl (Nat.le_of_ble_eq_true rfl) dX8_reaches_196 (fun H locs hP hD hS => ?_)
                  have hP : va_P D vwCl [(m0, .inr (8, [.ref mH, .int aM, .long aC, .int mM, .long mQ, .int oV, .int pL, .int lI, .int sW, .int dP, .int sT, .long aT, .int 14, .int u_r_4.1, .ref mI, .ref mJ, .ref mS, .ref mD, .int iH, .int aE, .int mN, .long sZ, .ref mX, .int tS, .int tA, .int tW, .ref mA, .ref mB, .ref mW, .ref mL, .int lS])), (mI, .inl (cL, 1200, .inr (.inl u_r_4.2.1))), (mJ, .inl (cI, 4, .inl (k4i u_r_4.2.2.1 u_r_4.2.2.2.1 u_r_4.2.2.2.2.1 u_r_4.2.2.2.2.2.1))), (mS, .inl (cI, 4, .inl (k4i u_r_4.2.2.2.2.2.2.1 u_r_4.2.2.2.2.2.2.2.1 u_r_4.2.2.2.2.2.2.2.2.1 u_r_4.2.2.2.2.2.2.2.2.2)))] H := hP
                  have hD : va_D A [(m0, .inr (8, [.ref mH, .int aM, .long aC, .int mM, .long mQ, .int oV, .int pL, .int lI, .int sW, .int dP, .int sT, .long aT, .int 14, .int u_r_4.1, .ref mI, .ref mJ, .ref mS, .ref mD, .int iH, .int aE, .int mN, .long sZ, .ref mX, .int tS, .int tA, .int tW, .ref mA, .ref mB, .ref mW, .ref mL, .int lS])), (mI, .inl (cL, 1200, .inr (.inl u_r_4.2.1))), (mJ, .inl (cI, 4, .inl (k4i u_r_4.2.2.1 u_r_4.2.2.2.1 u_r_4.2.2.2.2.1 u_r_4.2.2.2.2.2.1))), (mS, .inl (cI, 4, .inl (k4i u_r_4.2.2.2.2.2.2.1 u_r_4.2.2.2.2.2.2.2.1 u_r_4.2.2.2.2.2.2.2.2.1 u_r_4.2.2.2.2.2.2.2.2.2)))] := hD
                  refine lv_goto (tgt := 251) hx hb dX8_reaches_199 (by decide) ?_
                  refine lv_iconst (v := 0) hx hb dX8_reaches_251 (by decide) ?_
                  refine kIret (u := (pL, lI, dP, 14, u_r_4.1, u_r_4.2.1, u_r_4.2.2.1, u_r_4.2.2.2.1, u_r_4.2.2.2.2.1, u_r_4.2.2.2.2.2.1, u_r_4.2.2.2.2.2.2.1, u_r_4.2.2.2.2.2.2.2.1, u_r_4.2.2.2.2.2.2.2.2.1, u_r_4.2.2.2.2.2.2.2.2.2)) hx hb hr rfl hlocks hS dX8_reaches_252 ?_ (hP.sub [0, 1, 2, 3] rfl) (hD.sub [0, 1, 2, 3] (by decide) rfl)
                  try dsimp only
                  repeat' (with_reducible apply And.intro)
                  all_goals first | with_reducible assumption | ((try simp only [jT_, jP_, jD_, jC_, jB_, jW_, Int32.reduceToInt, Int64.reduceToInt, true_or, or_true, true_and, and_true]) <;> omega)
              · exact absurd c_164_8 (by decide)
          · have t_89_4 := c_89_4
            try simp only [kb_eq0, kb_ne0, lg_cmp_lt, lg_cmp_le, lg_cmp_gt, lg_cmp_ge, lg_cmp_eq] at t_89_4
            try simp only [Int32.lt_iff_toInt_lt, Int32.le_iff_toInt_le, ← Int32.toInt_inj, Int64.lt_iff_toInt_lt, Int64.le_iff_toInt_le, ← Int64.toInt_inj, Int32.toInt_toInt64, Int32.reduceToInt, Int64.reduceToInt] at t_89_4
            refine lv_iconst (v := 5) hx hb dX8_reaches_92 (by decide) ?_
            refine kIret (u := (pL, lI, dP, cH, u_r_4.1, u_r_4.2.1, u_r_4.2.2.1, u_r_4.2.2.2.1, u_r_4.2.2.2.2.1, u_r_4.2.2.2.2.2.1, u_r_4.2.2.2.2.2.2.1, u_r_4.2.2.2.2.2.2.2.1, u_r_4.2.2.2.2.2.2.2.2.1, u_r_4.2.2.2.2.2.2.2.2.2)) hx hb hr rfl hlocks hS dX8_reaches_93 ?_ (hP.sub [0, 1, 2, 3] rfl) (hD.sub [0, 1, 2, 3] (by decide) rfl)
            try dsimp only
            repeat' (with_reducible apply And.intro)
            all_goals first | with_reducible assumption | ((try simp only [jT_, jP_, jD_, jC_, jB_, jW_, Int32.reduceToInt, Int64.reduceToInt, true_or, or_true, true_and, and_true]) <;> omega)
        · have t_66_2 := c_66_2
          try simp only [kb_eq0, kb_ne0, lg_cmp_lt, lg_cmp_le, lg_cmp_gt, lg_cmp_ge, lg_cmp_eq] at t_66_2
          try simp only [Int32.lt_iff_toInt_lt, Int32.le_iff_toInt_le, ← Int32.toInt_inj, Int64.lt_iff_toInt_lt, Int64.le_iff_toInt_le, ← Int64.toInt_inj, Int32.toInt_toInt64, Int32.reduceToInt, Int64.reduceToInt] at t_66_2
          refine lv_iload_n hx hb dX8_reaches_69 rfl (lv_at hl 3 rfl) ?_
          refine lv_i2l hx hb dX8_reaches_70 rfl ?_
          refine lv_ldc2 (v := 256) hx hb hown (hts (.constantLong RX8 228 (256)) (List.mem_of_getElem? (i := 3) rfl)) dX8_reaches_71 ?_
          refine lv_ldc2 (v := 259) hx hb hown (hts (.constantLong RX8 230 (259)) (List.mem_of_getElem? (i := 4) rfl)) dX8_reaches_74 ?_
          refine kCallI (wr := [(m0, .inr (8, [.ref mH, .int aM, .long aC, .int mM, .long mQ, .int oV, .int pL, .int lI, .int sW, .int dP, .int sT, .long aT, .int cH, .int iW, .ref mI, .ref mJ, .ref mS, .ref mD, .int iH, .int aE, .int mN, .long sZ, .ref mX, .int tS, .int tA, .int tW, .ref mA, .ref mB, .ref mW, .ref mL, .int lS])), (mI, .inl (cL, 1200, .inr (.inl fI))), (mJ, .inl (cI, 4, .inl (k4i j0 j1 j2 j3))), (mS, .inl (cI, 4, .inl (k4i s0 s1 s2 s3)))]) (va_runS (As := [.long b.toInt64, .long 256, .long 259]) (rest := []) ⟨hx, hb, hml, hown, hts⟩ (q_in l D cI cL cB cZ cT _ (b.toInt64) 256 259) (va_cwS 3 hts gX8_reaches_X8_in rfl rfl rfl (by decide +kernel) ⟨Nat.le_of_ble_eq_true rfl, Nat.le_of_ble_eq_true rfl⟩) (kPreS hG hP hD [] rfl (by decide)) rfl rfl hl.1 rfl (lv_room (Nat.le_of_ble_eq_true rfl)) dX8_reaches_77 ⟨Nat.le_of_ble_eq_true rfl, Nat.le_of_ble_eq_true rfl⟩) hA hP hD hS [] [0, 1, 2, 3] rfl rfl (by decide) (by decide) (fun r_11 u_r_11 H locs wr_11 hP hD hS => ?_)
          have hP : va_P D vwCl [(m0, .inr (8, [.ref mH, .int aM, .long aC, .int mM, .long mQ, .int oV, .int pL, .int lI, .int sW, .int dP, .int sT, .long aT, .int cH, .int iW, .ref mI, .ref mJ, .ref mS, .ref mD, .int iH, .int aE, .int mN, .long sZ, .ref mX, .int tS, .int tA, .int tW, .ref mA, .ref mB, .ref mW, .ref mL, .int lS])), (mI, .inl (cL, 1200, .inr (.inl fI))), (mJ, .inl (cI, 4, .inl (k4i j0 j1 j2 j3))), (mS, .inl (cI, 4, .inl (k4i s0 s1 s2 s3)))] H := hP
          have hD : va_D A [(m0, .inr (8, [.ref mH, .int aM, .long aC, .int mM, .long mQ, .int oV, .int pL, .int lI, .int sW, .int dP, .int sT, .long aT, .int cH, .int iW, .ref mI, .ref mJ, .ref mS, .ref mD, .int iH, .int aE, .int mN, .long sZ, .ref mX, .int tS, .int tA, .int tW, .ref mA, .ref mB, .ref mW, .ref mL, .int lS])), (mI, .inl (cL, 1200, .inr (.inl fI))), (mJ, .inl (cI, 4, .inl (k4i j0 j1 j2 j3))), (mS, .inl (cI, 4, .inl (k4i s0 s1 s2 s3)))] := hD
          try dsimp only at wr_11
          subst wr_11
          refine lv_if_ne (tgt := 85) hx hb dX8_reaches_80 (by decide) (fun c_80_11 => ?_) (fun c_80_11 => ?_)
          · have t_80_11 := c_80_11
            try simp only [kb_eq0, kb_ne0, lg_cmp_lt, lg_cmp_le, lg_cmp_gt, lg_cmp_ge, lg_cmp_eq] at t_80_11
            try simp only [Int32.lt_iff_toInt_lt, Int32.le_iff_toInt_le, ← Int32.toInt_inj, Int64.lt_iff_toInt_lt, Int64.le_iff_toInt_le, ← Int64.toInt_inj, Int32.toInt_toInt64, Int32.reduceToInt, Int64.reduceToInt] at t_80_11
            refine lv_aload_n hx hb dX8_reaches_85 rfl (lv_at hl 1 rfl) ?_
            refine kCallI (wr := []) (va_runV (As := []) (rest := []) ⟨hx, hb, hml, hown, hts⟩ (q_endsRecord l D cI cL cB cZ cT _ m0 mH mI mJ mS mD mX mA mB mW mL aM aC mM mQ oV pL lI sW dP sT aT cH iW iH aE mN sZ tS tA tW lS fI j0 j1 j2 j3 s0 s1 s2 s3 (by first | with_reducible assumption | ((try simp only [jT_, jP_, jD_, jC_, jB_, jW_, Int32.reduceToInt, Int64.reduceToInt, true_or, or_true, true_and, and_true]) <;> omega)) (by first | with_reducible assumption | ((try simp only [jT_, jP_, jD_, jC_, jB_, jW_, Int32.reduceToInt, Int64.reduceToInt, true_or, or_true, true_and, and_true]) <;> omega)) (by first | with_reducible assumption | ((try simp only [jT_, jP_, jD_, jC_, jB_, jW_, Int32.reduceToInt, Int64.reduceToInt, true_or, or_true, true_and, and_true]) <;> omega)) (by first | with_reducible assumption | ((try simp only [jT_, jP_, jD_, jC_, jB_, jW_, Int32.reduceToInt, Int64.reduceToInt, true_or, or_true, true_and, and_true]) <;> omega)) (by first | with_reducible assumption | ((try simp only [jT_, jP_, jD_, jC_, jB_, jW_, Int32.reduceToInt, Int64.reduceToInt, true_or, or_true, true_and, and_true]) <;> omega))) (cwV 0 hts gX8_reaches_X8_endsRecord rfl rfl rfl (by decide +kernel) ⟨Nat.le_of_ble_eq_true rfl, Nat.le_of_ble_eq_true rfl⟩) (kPreV hG hP hD [0, 1, 2, 3] rfl (by decide) 0 8 rfl rfl rfl) rfl rfl hl.1 rfl (lv_room (Nat.le_of_ble_eq_true rfl)) dX8_reaches_86 ⟨Nat.le_of_ble_eq_true rfl, Nat.le_of_ble_eq_true rfl⟩) hA hP hD hS [0, 1, 2, 3] [] rfl rfl (by decide) (by decide) (fun r_13 u_r_13 H locs wr_13 hP hD hS => ?_)
            have hP : va_P D vwCl [(m0, .inr (8, [.ref mH, .int aM, .long aC, .int mM, .long mQ, .int oV, .int pL, .int lI, .int sW, .int dP, .int sT, .long aT, .int cH, .int u_r_13.1, .ref mI, .ref mJ, .ref mS, .ref mD, .int iH, .int aE, .int mN, .long sZ, .ref mX, .int tS, .int tA, .int tW, .ref mA, .ref mB, .ref mW, .ref mL, .int lS])), (mI, .inl (cL, 1200, .inr (.inl u_r_13.2.1))), (mJ, .inl (cI, 4, .inl (k4i u_r_13.2.2.1 u_r_13.2.2.2.1 u_r_13.2.2.2.2.1 u_r_13.2.2.2.2.2.1))), (mS, .inl (cI, 4, .inl (k4i u_r_13.2.2.2.2.2.2.1 u_r_13.2.2.2.2.2.2.2.1 u_r_13.2.2.2.2.2.2.2.2.1 u_r_13.2.2.2.2.2.2.2.2.2)))] H := hP
            have hD : va_D A [(m0, .inr (8, [.ref mH, .int aM, .long aC, .int mM, .long mQ, .int oV, .int pL, .int lI, .int sW, .int dP, .int sT, .long aT, .int cH, .int u_r_13.1, .ref mI, .ref mJ, .ref mS, .ref mD, .int iH, .int aE, .int mN, .long sZ, .ref mX, .int tS, .int tA, .int tW, .ref mA, .ref mB, .ref mW, .ref mL, .int lS])), (mI, .inl (cL, 1200, .inr (.inl u_r_13.2.1))), (mJ, .inl (cI, 4, .inl (k4i u_r_13.2.2.1 u_r_13.2.2.2.1 u_r_13.2.2.2.2.1 u_r_13.2.2.2.2.2.1))), (mS, .inl (cI, 4, .inl (k4i u_r_13.2.2.2.2.2.2.1 u_r_13.2.2.2.2.2.2.2.1 u_r_13.2.2.2.2.2.2.2.2.1 u_r_13.2.2.2.2.2.2.2.2.2)))] := hD
            try dsimp only at wr_13
            try simp only [Int32.reduceToInt, Int64.reduceToInt] at wr_13
            obtain ⟨wr_13_0, wr_13_1, wr_13_2, wr_13_3, wr_13_4, wr_13_5, wr_13_6⟩ := wr_13
            refine lv_if_ne (tgt := 94) hx hb dX8_reaches_89 (by decide) (fun c_89_13 => ?_) (fun c_89_13 => ?_)
            · have t_89_13 := c_89_13
              try simp only [kb_eq0, kb_ne0, lg_cmp_lt, lg_cmp_le, lg_cmp_gt, lg_cmp_ge, lg_cmp_eq] at t_89_13
              try simp only [Int32.lt_iff_toInt_lt, Int32.le_iff_toInt_le, ← Int32.toInt_inj, Int64.lt_iff_toInt_lt, Int64.le_iff_toInt_le, ← Int64.toInt_inj, Int32.toInt_toInt64, Int32.reduceToInt, Int64.reduceToInt] at t_89_13
              obtain rfl : z = 0 := k_inj (by simp only [Int32.reduceToInt]; omega)
              rcases ksw_256_259 b with hsw | rfl | rfl | rfl | rfl
              · omega
              · have hu : 0 ≤ (u_r_13.2.2.2.2.2.2.1).toInt ∧ (u_r_13.2.2.2.2.2.2.1).toInt ≤ (u_r_13.2.2.1).toInt ∧ (u_r_13.2.2.1).toInt ≤ 300 := wr_13_3
                refine lv_iload_n hx hb dX8_reaches_94 rfl (lv_at hl 3 rfl) ?_
                refine lv_sipush (v := 256) hx hb dX8_reaches_95 (by decide) ?_
                refine lv_isub hx hb dX8_reaches_98 ?_
                refine lv_topi (fun x_15 ex_15 => ?_)
                obtain rfl : x_15 = 0 := ex_15.trans (by decide)
                refine lv_istore (lv' := [(4, .int 0), (3, .int 0), (0, .ref m0), (1, .int a), (2, .int 256)]) hx hb dX8_reaches_99 hl (by decide) rfl (fun ls hl => ?_)
                refine lv_iload_n hx hb dX8_reaches_101 rfl (lv_at hl 3 rfl) ?_
                rcases ksw_24_27 a with hsw | rfl | rfl | rfl | rfl
                · refine lv_tableOut (tgt := 238) hx hb dX8_reaches_102 hsw (by decide) ?_
                  refine lv_aload_n hx hb dX8_reaches_238 rfl (lv_at hl 2 rfl) ?_
                  refine va_get (D := D) (ci := 8) (v := .ref mS) (C := RX8) (T := TX8) (N := 31) hx hb hts iX8_reaches_X8 hown hK hP 0 rfl rfl 16 (by decide) (hts (.fieldLink RX8 20 "TapeCalculatorModel" "stands" "[I") (List.mem_of_getElem? (i := 6) rfl)) (fun _ h9 => h9) rfl dX8_reaches_239 ?_
                  refine lv_iload hx hb dX8_reaches_242 (lv_at hl 0 rfl) ?_
                  refine lv_iconst (v := 0) hx hb dX8_reaches_244 (by decide) ?_
                  refine va_iast hx hb hK hP hD hS 3 0 rfl rfl (vp_in_iff.mpr (by decide)) dX8_reaches_245 (fun H locs hP hD hS => ?_)
                  rw [k4i_0] at hP hD
                  have hP : va_P D vwCl [(m0, .inr (8, [.ref mH, .int aM, .long aC, .int mM, .long mQ, .int oV, .int pL, .int lI, .int sW, .int dP, .int sT, .long aT, .int cH, .int u_r_13.1, .ref mI, .ref mJ, .ref mS, .ref mD, .int iH, .int aE, .int mN, .long sZ, .ref mX, .int tS, .int tA, .int tW, .ref mA, .ref mB, .ref mW, .ref mL, .int lS])), (mI, .inl (cL, 1200, .inr (.inl u_r_13.2.1))), (mJ, .inl (cI, 4, .inl (k4i u_r_13.2.2.1 u_r_13.2.2.2.1 u_r_13.2.2.2.2.1 u_r_13.2.2.2.2.2.1))), (mS, .inl (cI, 4, .inl (k4i 0 u_r_13.2.2.2.2.2.2.2.1 u_r_13.2.2.2.2.2.2.2.2.1 u_r_13.2.2.2.2.2.2.2.2.2)))] H := hP
                  have hD : va_D A [(m0, .inr (8, [.ref mH, .int aM, .long aC, .int mM, .long mQ, .int oV, .int pL, .int lI, .int sW, .int dP, .int sT, .long aT, .int cH, .int u_r_13.1, .ref mI, .ref mJ, .ref mS, .ref mD, .int iH, .int aE, .int mN, .long sZ, .ref mX, .int tS, .int tA, .int tW, .ref mA, .ref mB, .ref mW, .ref mL, .int lS])), (mI, .inl (cL, 1200, .inr (.inl u_r_13.2.1))), (mJ, .inl (cI, 4, .inl (k4i u_r_13.2.2.1 u_r_13.2.2.2.1 u_r_13.2.2.2.2.1 u_r_13.2.2.2.2.2.1))), (mS, .inl (cI, 4, .inl (k4i 0 u_r_13.2.2.2.2.2.2.2.1 u_r_13.2.2.2.2.2.2.2.2.1 u_r_13.2.2.2.2.2.2.2.2.2)))] := hD
                  refine lv_aload_n hx hb dX8_reaches_246 rfl (lv_at hl 2 rfl) ?_
                  refine lv_iconst (v := 0) hx hb dX8_reaches_247 (by decide) ?_
                  refine va_put (D := D) (ci := 8) (v := .int 0) (ty := .int) (C := RX8) (T := TX8) (N := 31) hx hb hts iX8_reaches_X8 tyX8 tyX8_ok nmX8 hown hK hP hD hS 0 rfl rfl 12 (by decide) (hts (.fieldLink RX8 43 "TapeCalculatorModel" "chosen" "I") (List.mem_of_getElem? (i := 1) rfl)) (fun _ h9 => h9) rfl (by decide +kernel) rfl rfl (Nat.le_of_ble_eq_true rfl) dX8_reaches_248 (fun H locs hP hD hS => ?_)
                  have hP : va_P D vwCl [(m0, .inr (8, [.ref mH, .int aM, .long aC, .int mM, .long mQ, .int oV, .int pL, .int lI, .int sW, .int dP, .int sT, .long aT, .int 0, .int u_r_13.1, .ref mI, .ref mJ, .ref mS, .ref mD, .int iH, .int aE, .int mN, .long sZ, .ref mX, .int tS, .int tA, .int tW, .ref mA, .ref mB, .ref mW, .ref mL, .int lS])), (mI, .inl (cL, 1200, .inr (.inl u_r_13.2.1))), (mJ, .inl (cI, 4, .inl (k4i u_r_13.2.2.1 u_r_13.2.2.2.1 u_r_13.2.2.2.2.1 u_r_13.2.2.2.2.2.1))), (mS, .inl (cI, 4, .inl (k4i 0 u_r_13.2.2.2.2.2.2.2.1 u_r_13.2.2.2.2.2.2.2.2.1 u_r_13.2.2.2.2.2.2.2.2.2)))] H := hP
                  have hD : va_D A [(m0, .inr (8, [.ref mH, .int aM, .long aC, .int mM, .long mQ, .int oV, .int pL, .int lI, .int sW, .int dP, .int sT, .long aT, .int 0, .int u_r_13.1, .ref mI, .ref mJ, .ref mS, .ref mD, .int iH, .int aE, .int mN, .long sZ, .ref mX, .int tS, .int tA, .int tW, .ref mA, .ref mB, .ref mW, .ref mL, .int lS])), (mI, .inl (cL, 1200, .inr (.inl u_r_13.2.1))), (mJ, .inl (cI, 4, .inl (k4i u_r_13.2.2.1 u_r_13.2.2.2.1 u_r_13.2.2.2.2.1 u_r_13.2.2.2.2.2.1))), (mS, .inl (cI, 4, .inl (k4i 0 u_r_13.2.2.2.2.2.2.2.1 u_r_13.2.2.2.2.2.2.2.2.1 u_r_13.2.2.2.2.2.2.2.2.2)))] := hD
                  refine lv_iconst (v := 0) hx hb dX8_reaches_251 (by decide) ?_
                  refine kIret (u := (pL, lI, dP, 0, u_r_13.1, u_r_13.2.1, u_r_13.2.2.1, u_r_13.2.2.2.1, u_r_13.2.2.2.2.1, u_r_13.2.2.2.2.2.1, 0, u_r_13.2.2.2.2.2.2.2.1, u_r_13.2.2.2.2.2.2.2.2.1, u_r_13.2.2.2.2.2.2.2.2.2)) hx hb hr rfl hlocks hS dX8_reaches_252 ?_ (hP.sub [0, 1, 2, 3] rfl) (hD.sub [0, 1, 2, 3] (by decide) rfl)
                  try dsimp only
                  repeat' (with_reducible apply And.intro)
                  all_goals first | with_reducible assumption | ((try simp only [jT_, jP_, jD_, jC_, jB_, jW_, Int32.reduceToInt, Int64.reduceToInt, true_or, or_true, true_and, and_true]) <;> omega)
                · refine lv_tableIn (tgt := 132) (off := 30) hx hb dX8_reaches_102 (by decide) (by decide) (by decide) (by decide) ?_
                  refine lv_aload_n hx hb dX8_reaches_132 rfl (lv_at hl 2 rfl) ?_
                  refine lv_iload_n hx hb dX8_reaches_133 rfl (lv_at hl 1 rfl) ?_
                  refine lv_if_eq (tgt := 142) hx hb dX8_reaches_134 (by decide) (fun c_134_15 => ?_) (fun c_134_15 => ?_)
                  · have t_134_15 := c_134_15
                    try simp only [kb_eq0, kb_ne0, lg_cmp_lt, lg_cmp_le, lg_cmp_gt, lg_cmp_ge, lg_cmp_eq] at t_134_15
                    try simp only [Int32.lt_iff_toInt_lt, Int32.le_iff_toInt_le, ← Int32.toInt_inj, Int64.lt_iff_toInt_lt, Int64.le_iff_toInt_le, ← Int64.toInt_inj, Int32.toInt_toInt64, Int32.reduceToInt, Int64.reduceToInt] at t_134_15
                    refine lv_iconst (v := 1) hx hb dX8_reaches_142 (by decide) ?_
                    refine lv_iload hx hb dX8_reaches_143 (lv_at hl 0 rfl) ?_
                    refine lv_iadd hx hb dX8_reaches_145 ?_
                    refine lv_topi (fun x_17 ex_17 => ?_)
                    obtain rfl : x_17 = 1 := ex_17.trans (by decide)
                    refine va_put (D := D) (ci := 8) (v := .int 1) (ty := .int) (C := RX8) (T := TX8) (N := 31) hx hb hts iX8_reaches_X8 tyX8 tyX8_ok nmX8 hown hK hP hD hS 0 rfl rfl 12 (by decide) (hts (.fieldLink RX8 43 "TapeCalculatorModel" "chosen" "I") (List.mem_of_getElem? (i := 1) rfl)) (fun _ h9 => h9) rfl (by decide +kernel) rfl rfl (Nat.le_of_ble_eq_true rfl) dX8_reaches_146 (fun H locs hP hD hS => ?_)
                    have hP : va_P D vwCl [(m0, .inr (8, [.ref mH, .int aM, .long aC, .int mM, .long mQ, .int oV, .int pL, .int lI, .int sW, .int dP, .int sT, .long aT, .int 1, .int u_r_13.1, .ref mI, .ref mJ, .ref mS, .ref mD, .int iH, .int aE, .int mN, .long sZ, .ref mX, .int tS, .int tA, .int tW, .ref mA, .ref mB, .ref mW, .ref mL, .int lS])), (mI, .inl (cL, 1200, .inr (.inl u_r_13.2.1))), (mJ, .inl (cI, 4, .inl (k4i u_r_13.2.2.1 u_r_13.2.2.2.1 u_r_13.2.2.2.2.1 u_r_13.2.2.2.2.2.1))), (mS, .inl (cI, 4, .inl (k4i u_r_13.2.2.2.2.2.2.1 u_r_13.2.2.2.2.2.2.2.1 u_r_13.2.2.2.2.2.2.2.2.1 u_r_13.2.2.2.2.2.2.2.2.2)))] H := hP
                    have hD : va_D A [(m0, .inr (8, [.ref mH, .int aM, .long aC, .int mM, .long mQ, .int oV, .int pL, .int lI, .int sW, .int dP, .int sT, .long aT, .int 1, .int u_r_13.1, .ref mI, .ref mJ, .ref mS, .ref mD, .int iH, .int aE, .int mN, .long sZ, .ref mX, .int tS, .int tA, .int tW, .ref mA, .ref mB, .ref mW, .ref mL, .int lS])), (mI, .inl (cL, 1200, .inr (.inl u_r_13.2.1))), (mJ, .inl (cI, 4, .inl (k4i u_r_13.2.2.1 u_r_13.2.2.2.1 u_r_13.2.2.2.2.1 u_r_13.2.2.2.2.2.1))), (mS, .inl (cI, 4, .inl (k4i u_r_13.2.2.2.2.2.2.1 u_r_13.2.2.2.2.2.2.2.1 u_r_13.2.2.2.2.2.2.2.2.1 u_r_13.2.2.2.2.2.2.2.2.2)))] := hD
                    refine lv_goto (tgt := 251) hx hb dX8_reaches_149 (by decide) ?_
                    refine lv_iconst (v := 0) hx hb dX8_reaches_251 (by decide) ?_
                    refine kIret (u := (pL, lI, dP, 1, u_r_13.1, u_r_13.2.1, u_r_13.2.2.1, u_r_13.2.2.2.1, u_r_13.2.2.2.2.1, u_r_13.2.2.2.2.2.1, u_r_13.2.2.2.2.2.2.1, u_r_13.2.2.2.2.2.2.2.1, u_r_13.2.2.2.2.2.2.2.2.1, u_r_13.2.2.2.2.2.2.2.2.2)) hx hb hr rfl hlocks hS dX8_reaches_252 ?_ (hP.sub [0, 1, 2, 3] rfl) (hD.sub [0, 1, 2, 3] (by decide) rfl)
                    try dsimp only
                    repeat' (with_reducible apply And.intro)
                    all_goals first | with_reducible assumption | ((try simp only [jT_, jP_, jD_, jC_, jB_, jW_, Int32.reduceToInt, Int64.reduceToInt, true_or, or_true, true_and, and_true]) <;> omega)
                  · exact absurd (by decide) c_134_15
                · refine lv_tableIn (tgt := 152) (off := 50) hx hb dX8_reaches_102 (by decide) (by decide) (by decide) (by decide) ?_
                  refine lv_aload_n hx hb dX8_reaches_152 rfl (lv_at hl 2 rfl) ?_
                  refine lv_iconst (v := 5) hx hb dX8_reaches_153 (by decide) ?_
                  refine lv_iload hx hb dX8_reaches_154 (lv_at hl 0 rfl) ?_
                  refine lv_iadd hx hb dX8_reaches_156 ?_
                  refine lv_topi (fun x_18 ex_18 => ?_)
                  obtain rfl : x_18 = 5 := ex_18.trans (by decide)
                  refine va_put (D := D) (ci := 8) (v := .int 5) (ty := .int) (C := RX8) (T := TX8) (N := 31) hx hb hts iX8_reaches_X8 tyX8 tyX8_ok nmX8 hown hK hP hD hS 0 rfl rfl 12 (by decide) (hts (.fieldLink RX8 43 "TapeCalculatorModel" "chosen" "I") (List.mem_of_getElem? (i := 1) rfl)) (fun _ h9 => h9) rfl (by decide +kernel) rfl rfl (Nat.le_of_ble_eq_true rfl) dX8_reaches_157 (fun H locs hP hD hS => ?_)
                  have hP : va_P D vwCl [(m0, .inr (8, [.ref mH, .int aM, .long aC, .int mM, .long mQ, .int oV, .int pL, .int lI, .int sW, .int dP, .int sT, .long aT, .int 5, .int u_r_13.1, .ref mI, .ref mJ, .ref mS, .ref mD, .int iH, .int aE, .int mN, .long sZ, .ref mX, .int tS, .int tA, .int tW, .ref mA, .ref mB, .ref mW, .ref mL, .int lS])), (mI, .inl (cL, 1200, .inr (.inl u_r_13.2.1))), (mJ, .inl (cI, 4, .inl (k4i u_r_13.2.2.1 u_r_13.2.2.2.1 u_r_13.2.2.2.2.1 u_r_13.2.2.2.2.2.1))), (mS, .inl (cI, 4, .inl (k4i u_r_13.2.2.2.2.2.2.1 u_r_13.2.2.2.2.2.2.2.1 u_r_13.2.2.2.2.2.2.2.2.1 u_r_13.2.2.2.2.2.2.2.2.2)))] H := hP
                  have hD : va_D A [(m0, .inr (8, [.ref mH, .int aM, .long aC, .int mM, .long mQ, .int oV, .int pL, .int lI, .int sW, .int dP, .int sT, .long aT, .int 5, .int u_r_13.1, .ref mI, .ref mJ, .ref mS, .ref mD, .int iH, .int aE, .int mN, .long sZ, .ref mX, .int tS, .int tA, .int tW, .ref mA, .ref mB, .ref mW, .ref mL, .int lS])), (mI, .inl (cL, 1200, .inr (.inl u_r_13.2.1))), (mJ, .inl (cI, 4, .inl (k4i u_r_13.2.2.1 u_r_13.2.2.2.1 u_r_13.2.2.2.2.1 u_r_13.2.2.2.2.2.1))), (mS, .inl (cI, 4, .inl (k4i u_r_13.2.2.2.2.2.2.1 u_r_13.2.2.2.2.2.2.2.1 u_r_13.2.2.2.2.2.2.2.2.1 u_r_13.2.2.2.2.2.2.2.2.2)))] := hD
                  refine lv_goto (tgt := 251) hx hb dX8_reaches_160 (by decide) ?_
                  refine lv_iconst (v := 0) hx hb dX8_reaches_251 (by decide) ?_
                  refine kIret (u := (pL, lI, dP, 5, u_r_13.1, u_r_13.2.1, u_r_13.2.2.1, u_r_13.2.2.2.1, u_r_13.2.2.2.2.1, u_r_13.2.2.2.2.2.1, u_r_13.2.2.2.2.2.2.1, u_r_13.2.2.2.2.2.2.2.1, u_r_13.2.2.2.2.2.2.2.2.1, u_r_13.2.2.2.2.2.2.2.2.2)) hx hb hr rfl hlocks hS dX8_reaches_252 ?_ (hP.sub [0, 1, 2, 3] rfl) (hD.sub [0, 1, 2, 3] (by decide) rfl)
                  try dsimp only
                  repeat' (with_reducible apply And.intro)
                  all_goals first | with_reducible assumption | ((try simp only [jT_, jP_, jD_, jC_, jB_, jW_, Int32.reduceToInt, Int64.reduceToInt, true_or, or_true, true_and, and_true]) <;> omega)
                · refine lv_tableIn (tgt := 163) (off := 61) hx hb dX8_reaches_102 (by decide) (by decide) (by decide) (by decide) ?_
                  refine lv_iload_n hx hb dX8_reaches_163 rfl (lv_at hl 1 rfl) ?_
                  refine lv_if_ne (tgt := 181) hx hb dX8_reaches_164 (by decide) (fun c_164_18 => ?_) (fun c_164_18 => ?_)
                  · exact absurd (by decide) c_164_18
                  · have t_164_18 := c_164_18
                    try simp only [kb_eq0, kb_ne0, lg_cmp_lt, lg_cmp_le, lg_cmp_gt, lg_cmp_ge, lg_cmp_eq] at t_164_18
                    try simp only [Int32.lt_iff_toInt_lt, Int32.le_iff_toInt_le, ← Int32.toInt_inj, Int64.lt_iff_toInt_lt, Int64.le_iff_toInt_le, ← Int64.toInt_inj, Int32.toInt_toInt64, Int32.reduceToInt, Int64.reduceToInt] at t_164_18
                    refine lv_aload_n hx hb dX8_reaches_167 rfl (lv_at hl 2 rfl) ?_
                    refine va_get (D := D) (ci := 8) (v := .ref mJ) (C := RX8) (T := TX8) (N := 31) hx hb hts iX8_reaches_X8 hown hK hP 0 rfl rfl 15 (by decide) (hts (.fieldLink RX8 17 "TapeCalculatorModel" "items" "[I") (List.mem_of_getElem? (i := 5) rfl)) (fun _ h9 => h9) rfl dX8_reaches_168 ?_
                    refine lv_iload hx hb dX8_reaches_171 (lv_at hl 0 rfl) ?_
                    refine lv_aload_n hx hb dX8_reaches_173 rfl (lv_at hl 2 rfl) ?_
                    refine va_get (D := D) (ci := 8) (v := .ref mS) (C := RX8) (T := TX8) (N := 31) hx hb hts iX8_reaches_X8 hown hK hP 0 rfl rfl 16 (by decide) (hts (.fieldLink RX8 20 "TapeCalculatorModel" "stands" "[I") (List.mem_of_getElem? (i := 6) rfl)) (fun _ h9 => h9) rfl dX8_reaches_174 ?_
                    refine lv_iload hx hb dX8_reaches_177 (lv_at hl 0 rfl) ?_
                    refine va_iald hx hb hK hP 3 0 rfl rfl (vp_in_iff.mpr (by decide)) dX8_reaches_179 ?_
                    refine lv_topi (fun x_20 ex_20 => ?_)
                    obtain rfl : u_r_13.2.2.2.2.2.2.1 = x_20 := ex_20.symm
                    refine va_iast hx hb hK hP hD hS 2 0 rfl rfl (vp_in_iff.mpr (by decide)) dX8_reaches_180 (fun H locs hP hD hS => ?_)
                    rw [k4i_0] at hP hD
                    have hP : va_P D vwCl [(m0, .inr (8, [.ref mH, .int aM, .long aC, .int mM, .long mQ, .int oV, .int pL, .int lI, .int sW, .int dP, .int sT, .long aT, .int cH, .int u_r_13.1, .ref mI, .ref mJ, .ref mS, .ref mD, .int iH, .int aE, .int mN, .long sZ, .ref mX, .int tS, .int tA, .int tW, .ref mA, .ref mB, .ref mW, .ref mL, .int lS])), (mI, .inl (cL, 1200, .inr (.inl u_r_13.2.1))), (mJ, .inl (cI, 4, .inl (k4i (u_r_13.2.2.2.2.2.2.1) u_r_13.2.2.2.1 u_r_13.2.2.2.2.1 u_r_13.2.2.2.2.2.1))), (mS, .inl (cI, 4, .inl (k4i u_r_13.2.2.2.2.2.2.1 u_r_13.2.2.2.2.2.2.2.1 u_r_13.2.2.2.2.2.2.2.2.1 u_r_13.2.2.2.2.2.2.2.2.2)))] H := hP
                    have hD : va_D A [(m0, .inr (8, [.ref mH, .int aM, .long aC, .int mM, .long mQ, .int oV, .int pL, .int lI, .int sW, .int dP, .int sT, .long aT, .int cH, .int u_r_13.1, .ref mI, .ref mJ, .ref mS, .ref mD, .int iH, .int aE, .int mN, .long sZ, .ref mX, .int tS, .int tA, .int tW, .ref mA, .ref mB, .ref mW, .ref mL, .int lS])), (mI, .inl (cL, 1200, .inr (.inl u_r_13.2.1))), (mJ, .inl (cI, 4, .inl (k4i (u_r_13.2.2.2.2.2.2.1) u_r_13.2.2.2.1 u_r_13.2.2.2.2.1 u_r_13.2.2.2.2.2.1))), (mS, .inl (cI, 4, .inl (k4i u_r_13.2.2.2.2.2.2.1 u_r_13.2.2.2.2.2.2.2.1 u_r_13.2.2.2.2.2.2.2.2.1 u_r_13.2.2.2.2.2.2.2.2.2)))] := hD
                    refine lv_aload_n hx hb dX8_reaches_181 rfl (lv_at hl 2 rfl) ?_
                    refine lv_iload_n hx hb dX8_reaches_182 rfl (lv_at hl 1 rfl) ?_
                    refine lv_if_eq (tgt := 191) hx hb dX8_reaches_183 (by decide) (fun c_183_20 => ?_) (fun c_183_20 => ?_)
                    · have t_183_20 := c_183_20
                      try simp only [kb_eq0, kb_ne0, lg_cmp_lt, lg_cmp_le, lg_cmp_gt, lg_cmp_ge, lg_cmp_eq] at t_183_20
                      try simp only [Int32.lt_iff_toInt_lt, Int32.le_iff_toInt_le, ← Int32.toInt_inj, Int64.lt_iff_toInt_lt, Int64.le_iff_toInt_le, ← Int64.toInt_inj, Int32.toInt_toInt64, Int32.reduceToInt, Int64.reduceToInt] at t_183_20
                      refine lv_bipush (v := 9) hx hb dX8_reaches_191 (by decide) ?_
                      refine lv_iload hx hb dX8_reaches_193 (lv_at hl 0 rfl) ?_
                      refine lv_iadd hx hb dX8_reaches_195 ?_
                      refine lv_topi (fun x_22 ex_22 => ?_)
                      obtain rfl : x_22 = 9 := ex_22.trans (by decide)
                      refine va_put (D := D) (ci := 8) (v := .int 9) (ty := .int) (C := RX8) (T := TX8) (N := 31) hx hb hts iX8_reaches_X8 tyX8 tyX8_ok nmX8 hown hK hP hD hS 0 rfl rfl 12 (by decide) (hts (.fieldLink RX8 43 "TapeCalculatorModel" "chosen" "I") (List.mem_of_getElem? (i := 1) rfl)) (fun _ h9 => h9) rfl (by decide +kernel) rfl rfl (Nat.le_of_ble_eq_true rfl) dX8_reaches_196 (fun H locs hP hD hS => ?_)
                      have hP : va_P D vwCl [(m0, .inr (8, [.ref mH, .int aM, .long aC, .int mM, .long mQ, .int oV, .int pL, .int lI, .int sW, .int dP, .int sT, .long aT, .int 9, .int u_r_13.1, .ref mI, .ref mJ, .ref mS, .ref mD, .int iH, .int aE, .int mN, .long sZ, .ref mX, .int tS, .int tA, .int tW, .ref mA, .ref mB, .ref mW, .ref mL, .int lS])), (mI, .inl (cL, 1200, .inr (.inl u_r_13.2.1))), (mJ, .inl (cI, 4, .inl (k4i (u_r_13.2.2.2.2.2.2.1) u_r_13.2.2.2.1 u_r_13.2.2.2.2.1 u_r_13.2.2.2.2.2.1))), (mS, .inl (cI, 4, .inl (k4i u_r_13.2.2.2.2.2.2.1 u_r_13.2.2.2.2.2.2.2.1 u_r_13.2.2.2.2.2.2.2.2.1 u_r_13.2.2.2.2.2.2.2.2.2)))] H := hP
                      have hD : va_D A [(m0, .inr (8, [.ref mH, .int aM, .long aC, .int mM, .long mQ, .int oV, .int pL, .int lI, .int sW, .int dP, .int sT, .long aT, .int 9, .int u_r_13.1, .ref mI, .ref mJ, .ref mS, .ref mD, .int iH, .int aE, .int mN, .long sZ, .ref mX, .int tS, .int tA, .int tW, .ref mA, .ref mB, .ref mW, .ref mL, .int lS])), (mI, .inl (cL, 1200, .inr (.inl u_r_13.2.1))), (mJ, .inl (cI, 4, .inl (k4i (u_r_13.2.2.2.2.2.2.1) u_r_13.2.2.2.1 u_r_13.2.2.2.2.1 u_r_13.2.2.2.2.2.1))), (mS, .inl (cI, 4, .inl (k4i u_r_13.2.2.2.2.2.2.1 u_r_13.2.2.2.2.2.2.2.1 u_r_13.2.2.2.2.2.2.2.2.1 u_r_13.2.2.2.2.2.2.2.2.2)))] := hD
                      refine lv_goto (tgt := 251) hx hb dX8_reaches_199 (by decide) ?_
                      refine lv_iconst (v := 0) hx hb dX8_reaches_251 (by decide) ?_
                      refine kIret (u := (pL, lI, dP, 9, u_r_13.1, u_r_13.2.1, (u_r_13.2.2.2.2.2.2.1), u_r_13.2.2.2.1, u_r_13.2.2.2.2.1, u_r_13.2.2.2.2.2.1, u_r_13.2.2.2.2.2.2.1, u_r_13.2.2.2.2.2.2.2.1, u_r_13.2.2.2.2.2.2.2.2.1, u_r_13.2.2.2.2.2.2.2.2.2)) hx hb hr rfl hlocks hS dX8_reaches_252 ?_ (hP.sub [0, 1, 2, 3] rfl) (hD.sub [0, 1, 2, 3] (by decide) rfl)
                      try dsimp only
                      repeat' (with_reducible apply And.intro)
                      all_goals first | with_reducible assumption | ((try simp only [jT_, jP_, jD_, jC_, jB_, jW_, Int32.reduceToInt, Int64.reduceToInt, true_or, or_true, true_and, and_true]) <;> omega)
                    · exact absurd (by decide) c_183_20
                · refine lv_tableIn (tgt := 202) (off := 100) hx hb dX8_reaches_102 (by decide) (by decide) (by decide) (by decide) ?_
                  refine lv_aload_n hx hb dX8_reaches_202 rfl (lv_at hl 2 rfl) ?_
                  refine va_get (D := D) (ci := 8) (v := .ref mJ) (C := RX8) (T := TX8) (N := 31) hx hb hts iX8_reaches_X8 hown hK hP 0 rfl rfl 15 (by decide) (hts (.fieldLink RX8 17 "TapeCalculatorModel" "items" "[I") (List.mem_of_getElem? (i := 5) rfl)) (fun _ h9 => h9) rfl dX8_reaches_203 ?_
                  refine lv_iload hx hb dX8_reaches_206 (lv_at hl 0 rfl) ?_
                  refine lv_aload_n hx hb dX8_reaches_208 rfl (lv_at hl 2 rfl) ?_
                  refine va_get (D := D) (ci := 8) (v := .ref mS) (C := RX8) (T := TX8) (N := 31) hx hb hts iX8_reaches_X8 hown hK hP 0 rfl rfl 16 (by decide) (hts (.fieldLink RX8 20 "TapeCalculatorModel" "stands" "[I") (List.mem_of_getElem? (i := 6) rfl)) (fun _ h9 => h9) rfl dX8_reaches_209 ?_
                  refine lv_iload hx hb dX8_reaches_212 (lv_at hl 0 rfl) ?_
                  refine va_iald hx hb hK hP 3 0 rfl rfl (vp_in_iff.mpr (by decide)) dX8_reaches_214 ?_
                  refine lv_topi (fun x_23 ex_23 => ?_)
                  obtain rfl : u_r_13.2.2.2.2.2.2.1 = x_23 := ex_23.symm
                  refine va_iast hx hb hK hP hD hS 2 0 rfl rfl (vp_in_iff.mpr (by decide)) dX8_reaches_215 (fun H locs hP hD hS => ?_)
                  rw [k4i_0] at hP hD
                  have hP : va_P D vwCl [(m0, .inr (8, [.ref mH, .int aM, .long aC, .int mM, .long mQ, .int oV, .int pL, .int lI, .int sW, .int dP, .int sT, .long aT, .int cH, .int u_r_13.1, .ref mI, .ref mJ, .ref mS, .ref mD, .int iH, .int aE, .int mN, .long sZ, .ref mX, .int tS, .int tA, .int tW, .ref mA, .ref mB, .ref mW, .ref mL, .int lS])), (mI, .inl (cL, 1200, .inr (.inl u_r_13.2.1))), (mJ, .inl (cI, 4, .inl (k4i (u_r_13.2.2.2.2.2.2.1) u_r_13.2.2.2.1 u_r_13.2.2.2.2.1 u_r_13.2.2.2.2.2.1))), (mS, .inl (cI, 4, .inl (k4i u_r_13.2.2.2.2.2.2.1 u_r_13.2.2.2.2.2.2.2.1 u_r_13.2.2.2.2.2.2.2.2.1 u_r_13.2.2.2.2.2.2.2.2.2)))] H := hP
                  have hD : va_D A [(m0, .inr (8, [.ref mH, .int aM, .long aC, .int mM, .long mQ, .int oV, .int pL, .int lI, .int sW, .int dP, .int sT, .long aT, .int cH, .int u_r_13.1, .ref mI, .ref mJ, .ref mS, .ref mD, .int iH, .int aE, .int mN, .long sZ, .ref mX, .int tS, .int tA, .int tW, .ref mA, .ref mB, .ref mW, .ref mL, .int lS])), (mI, .inl (cL, 1200, .inr (.inl u_r_13.2.1))), (mJ, .inl (cI, 4, .inl (k4i (u_r_13.2.2.2.2.2.2.1) u_r_13.2.2.2.1 u_r_13.2.2.2.2.1 u_r_13.2.2.2.2.2.1))), (mS, .inl (cI, 4, .inl (k4i u_r_13.2.2.2.2.2.2.1 u_r_13.2.2.2.2.2.2.2.1 u_r_13.2.2.2.2.2.2.2.2.1 u_r_13.2.2.2.2.2.2.2.2.2)))] := hD
                  refine lv_aload_n hx hb dX8_reaches_216 rfl (lv_at hl 2 rfl) ?_
                  refine lv_iload hx hb dX8_reaches_217 (lv_at hl 0 rfl) ?_
                  refine lv_ldc2 (v := (-3)) hx hb hown (hts (.constantLong RX8 113 (-3)) (List.mem_of_getElem? (i := 7) rfl)) dX8_reaches_219 ?_
                  refine kCallI (wr := []) (va_runV (As := [.int 0, .long (-3)]) (rest := []) ⟨hx, hb, hml, hown, hts⟩ (q_puts l D cI cL cB cZ cT _ m0 mH mI mJ mS mD mX mA mB mW mL aM aC mM mQ oV pL lI sW dP sT aT cH (u_r_13.1) iH aE mN sZ tS tA tW lS (u_r_13.2.1) (u_r_13.2.2.2.2.2.2.1) (u_r_13.2.2.2.1) (u_r_13.2.2.2.2.1) (u_r_13.2.2.2.2.2.1) (u_r_13.2.2.2.2.2.2.1) (u_r_13.2.2.2.2.2.2.2.1) (u_r_13.2.2.2.2.2.2.2.2.1) (u_r_13.2.2.2.2.2.2.2.2.2) 0 (-3) (by first | with_reducible assumption | ((try simp only [jT_, jP_, jD_, jC_, jB_, jW_, Int32.reduceToInt, Int64.reduceToInt, true_or, or_true, true_and, and_true]) <;> omega)) (by first | with_reducible assumption | ((try simp only [jT_, jP_, jD_, jC_, jB_, jW_, Int32.reduceToInt, Int64.reduceToInt, true_or, or_true, true_and, and_true]) <;> omega)) (by first | with_reducible assumption | ((try simp only [jT_, jP_, jD_, jC_, jB_, jW_, Int32.reduceToInt, Int64.reduceToInt, true_or, or_true, true_and, and_true]) <;> omega)) (by first | with_reducible assumption | ((try simp only [jT_, jP_, jD_, jC_, jB_, jW_, Int32.reduceToInt, Int64.reduceToInt, true_or, or_true, true_and, and_true]) <;> omega)) (by decide)) (cwV 2 hts gX8_reaches_X8_puts rfl rfl rfl (by decide +kernel) ⟨Nat.le_of_ble_eq_true rfl, Nat.le_of_ble_eq_true rfl⟩) (kPreV hG hP hD [0, 1, 2, 3] rfl (by decide) 0 8 rfl rfl rfl) rfl rfl hl.1 rfl (lv_room (Nat.le_of_ble_eq_true rfl)) dX8_reaches_222 ⟨Nat.le_of_ble_eq_true rfl, Nat.le_of_ble_eq_true rfl⟩) hA hP hD hS [0, 1, 2, 3] [] rfl rfl (by decide) (by decide) (fun r_24 u_r_24 H locs wr_24 hP hD hS => ?_)
                  have hP : va_P D vwCl [(m0, .inr (8, [.ref mH, .int aM, .long aC, .int mM, .long mQ, .int oV, .int pL, .int lI, .int sW, .int dP, .int sT, .long aT, .int cH, .int u_r_13.1, .ref mI, .ref mJ, .ref mS, .ref mD, .int iH, .int aE, .int mN, .long sZ, .ref mX, .int tS, .int tA, .int tW, .ref mA, .ref mB, .ref mW, .ref mL, .int lS])), (mI, .inl (cL, 1200, .inr (.inl u_r_24.1))), (mJ, .inl (cI, 4, .inl (k4i u_r_24.2.1 u_r_24.2.2.1 u_r_24.2.2.2.1 u_r_24.2.2.2.2.1))), (mS, .inl (cI, 4, .inl (k4i u_r_24.2.2.2.2.2.1 u_r_24.2.2.2.2.2.2.1 u_r_24.2.2.2.2.2.2.2.1 u_r_24.2.2.2.2.2.2.2.2)))] H := hP
                  have hD : va_D A [(m0, .inr (8, [.ref mH, .int aM, .long aC, .int mM, .long mQ, .int oV, .int pL, .int lI, .int sW, .int dP, .int sT, .long aT, .int cH, .int u_r_13.1, .ref mI, .ref mJ, .ref mS, .ref mD, .int iH, .int aE, .int mN, .long sZ, .ref mX, .int tS, .int tA, .int tW, .ref mA, .ref mB, .ref mW, .ref mL, .int lS])), (mI, .inl (cL, 1200, .inr (.inl u_r_24.1))), (mJ, .inl (cI, 4, .inl (k4i u_r_24.2.1 u_r_24.2.2.1 u_r_24.2.2.2.1 u_r_24.2.2.2.2.1))), (mS, .inl (cI, 4, .inl (k4i u_r_24.2.2.2.2.2.1 u_r_24.2.2.2.2.2.2.1 u_r_24.2.2.2.2.2.2.2.1 u_r_24.2.2.2.2.2.2.2.2)))] := hD
                  try dsimp only at wr_24
                  try simp only [Int32.reduceToInt, Int64.reduceToInt] at wr_24
                  obtain ⟨wr_24_0, wr_24_1, wr_24_2, wr_24_3, wr_24_4⟩ := wr_24
                  refine lv_if_ne (tgt := 230) hx hb dX8_reaches_225 (by decide) (fun c_225_24 => ?_) (fun c_225_24 => ?_)
                  · have t_225_24 := c_225_24
                    try simp only [kb_eq0, kb_ne0, lg_cmp_lt, lg_cmp_le, lg_cmp_gt, lg_cmp_ge, lg_cmp_eq] at t_225_24
                    try simp only [Int32.lt_iff_toInt_lt, Int32.le_iff_toInt_le, ← Int32.toInt_inj, Int64.lt_iff_toInt_lt, Int64.le_iff_toInt_le, ← Int64.toInt_inj, Int32.toInt_toInt64, Int32.reduceToInt, Int64.reduceToInt] at t_225_24
                    refine lv_aload_n hx hb dX8_reaches_230 rfl (lv_at hl 2 rfl) ?_
                    refine lv_iconst (v := 0) hx hb dX8_reaches_231 (by decide) ?_
                    refine va_put (D := D) (ci := 8) (v := .int 0) (ty := .int) (C := RX8) (T := TX8) (N := 31) hx hb hts iX8_reaches_X8 tyX8 tyX8_ok nmX8 hown hK hP hD hS 0 rfl rfl 12 (by decide) (hts (.fieldLink RX8 43 "TapeCalculatorModel" "chosen" "I") (List.mem_of_getElem? (i := 1) rfl)) (fun _ h9 => h9) rfl (by decide +kernel) rfl rfl (Nat.le_of_ble_eq_true rfl) dX8_reaches_232 (fun H locs hP hD hS => ?_)
                    have hP : va_P D vwCl [(m0, .inr (8, [.ref mH, .int aM, .long aC, .int mM, .long mQ, .int oV, .int pL, .int lI, .int sW, .int dP, .int sT, .long aT, .int 0, .int u_r_13.1, .ref mI, .ref mJ, .ref mS, .ref mD, .int iH, .int aE, .int mN, .long sZ, .ref mX, .int tS, .int tA, .int tW, .ref mA, .ref mB, .ref mW, .ref mL, .int lS])), (mI, .inl (cL, 1200, .inr (.inl u_r_24.1))), (mJ, .inl (cI, 4, .inl (k4i u_r_24.2.1 u_r_24.2.2.1 u_r_24.2.2.2.1 u_r_24.2.2.2.2.1))), (mS, .inl (cI, 4, .inl (k4i u_r_24.2.2.2.2.2.1 u_r_24.2.2.2.2.2.2.1 u_r_24.2.2.2.2.2.2.2.1 u_r_24.2.2.2.2.2.2.2.2)))] H := hP
                    have hD : va_D A [(m0, .inr (8, [.ref mH, .int aM, .long aC, .int mM, .long mQ, .int oV, .int pL, .int lI, .int sW, .int dP, .int sT, .long aT, .int 0, .int u_r_13.1, .ref mI, .ref mJ, .ref mS, .ref mD, .int iH, .int aE, .int mN, .long sZ, .ref mX, .int tS, .int tA, .int tW, .ref mA, .ref mB, .ref mW, .ref mL, .int lS])), (mI, .inl (cL, 1200, .inr (.inl u_r_24.1))), (mJ, .inl (cI, 4, .inl (k4i u_r_24.2.1 u_r_24.2.2.1 u_r_24.2.2.2.1 u_r_24.2.2.2.2.1))), (mS, .inl (cI, 4, .inl (k4i u_r_24.2.2.2.2.2.1 u_r_24.2.2.2.2.2.2.1 u_r_24.2.2.2.2.2.2.2.1 u_r_24.2.2.2.2.2.2.2.2)))] := hD
                    refine lv_goto (tgt := 251) hx hb dX8_reaches_235 (by decide) ?_
                    refine lv_iconst (v := 0) hx hb dX8_reaches_251 (by decide) ?_
                    refine kIret (u := (pL, lI, dP, 0, u_r_13.1, u_r_24.1, u_r_24.2.1, u_r_24.2.2.1, u_r_24.2.2.2.1, u_r_24.2.2.2.2.1, u_r_24.2.2.2.2.2.1, u_r_24.2.2.2.2.2.2.1, u_r_24.2.2.2.2.2.2.2.1, u_r_24.2.2.2.2.2.2.2.2)) hx hb hr rfl hlocks hS dX8_reaches_252 ?_ (hP.sub [0, 1, 2, 3] rfl) (hD.sub [0, 1, 2, 3] (by decide) rfl)
                    try dsimp only
                    repeat' (with_reducible apply And.intro)
                    all_goals first | with_reducible assumption | ((try simp only [jT_, jP_, jD_, jC_, jB_, jW_, Int32.reduceToInt, Int64.reduceToInt, true_or, or_true, true_and, and_true]) <;> omega)
                  · have t_225_24 := c_225_24
                    try simp only [kb_eq0, kb_ne0, lg_cmp_lt, lg_cmp_le, lg_cmp_gt, lg_cmp_ge, lg_cmp_eq] at t_225_24
                    try simp only [Int32.lt_iff_toInt_lt, Int32.le_iff_toInt_le, ← Int32.toInt_inj, Int64.lt_iff_toInt_lt, Int64.le_iff_toInt_le, ← Int64.toInt_inj, Int32.toInt_toInt64, Int32.reduceToInt, Int64.reduceToInt] at t_225_24
                    refine lv_iconst (v := 5) hx hb dX8_reaches_228 (by decide) ?_
                    refine kIret (u := (pL, lI, dP, cH, u_r_13.1, u_r_24.1, u_r_24.2.1, u_r_24.2.2.1, u_r_24.2.2.2.1, u_r_24.2.2.2.2.1, u_r_24.2.2.2.2.2.1, u_r_24.2.2.2.2.2.2.1, u_r_24.2.2.2.2.2.2.2.1, u_r_24.2.2.2.2.2.2.2.2)) hx hb hr rfl hlocks hS dX8_reaches_229 ?_ (hP.sub [0, 1, 2, 3] rfl) (hD.sub [0, 1, 2, 3] (by decide) rfl)
                    try dsimp only
                    repeat' (with_reducible apply And.intro)
                    all_goals first | with_reducible assumption | ((try simp only [jT_, jP_, jD_, jC_, jB_, jW_, Int32.reduceToInt, Int64.reduceToInt, true_or, or_true, true_and, and_true]) <;> omega)
              · have hu : 0 ≤ (u_r_13.2.2.2.2.2.2.2.1).toInt ∧ (u_r_13.2.2.2.2.2.2.2.1).toInt ≤ (u_r_13.2.2.2.1).toInt ∧ (u_r_13.2.2.2.1).toInt ≤ 300 := wr_13_4
                refine lv_iload_n hx hb dX8_reaches_94 rfl (lv_at hl 3 rfl) ?_
                refine lv_sipush (v := 256) hx hb dX8_reaches_95 (by decide) ?_
                refine lv_isub hx hb dX8_reaches_98 ?_
                refine lv_topi (fun x_26 ex_26 => ?_)
                obtain rfl : x_26 = 1 := ex_26.trans (by decide)
                refine lv_istore (lv' := [(4, .int 1), (3, .int 0), (0, .ref m0), (1, .int a), (2, .int 257)]) hx hb dX8_reaches_99 hl (by decide) rfl (fun ls hl => ?_)
                refine lv_iload_n hx hb dX8_reaches_101 rfl (lv_at hl 3 rfl) ?_
                rcases ksw_24_27 a with hsw | rfl | rfl | rfl | rfl
                · refine lv_tableOut (tgt := 238) hx hb dX8_reaches_102 hsw (by decide) ?_
                  refine lv_aload_n hx hb dX8_reaches_238 rfl (lv_at hl 2 rfl) ?_
                  refine va_get (D := D) (ci := 8) (v := .ref mS) (C := RX8) (T := TX8) (N := 31) hx hb hts iX8_reaches_X8 hown hK hP 0 rfl rfl 16 (by decide) (hts (.fieldLink RX8 20 "TapeCalculatorModel" "stands" "[I") (List.mem_of_getElem? (i := 6) rfl)) (fun _ h9 => h9) rfl dX8_reaches_239 ?_
                  refine lv_iload hx hb dX8_reaches_242 (lv_at hl 0 rfl) ?_
                  refine lv_iconst (v := 0) hx hb dX8_reaches_244 (by decide) ?_
                  refine va_iast hx hb hK hP hD hS 3 0 rfl rfl (vp_in_iff.mpr (by decide)) dX8_reaches_245 (fun H locs hP hD hS => ?_)
                  rw [k4i_1] at hP hD
                  have hP : va_P D vwCl [(m0, .inr (8, [.ref mH, .int aM, .long aC, .int mM, .long mQ, .int oV, .int pL, .int lI, .int sW, .int dP, .int sT, .long aT, .int cH, .int u_r_13.1, .ref mI, .ref mJ, .ref mS, .ref mD, .int iH, .int aE, .int mN, .long sZ, .ref mX, .int tS, .int tA, .int tW, .ref mA, .ref mB, .ref mW, .ref mL, .int lS])), (mI, .inl (cL, 1200, .inr (.inl u_r_13.2.1))), (mJ, .inl (cI, 4, .inl (k4i u_r_13.2.2.1 u_r_13.2.2.2.1 u_r_13.2.2.2.2.1 u_r_13.2.2.2.2.2.1))), (mS, .inl (cI, 4, .inl (k4i u_r_13.2.2.2.2.2.2.1 0 u_r_13.2.2.2.2.2.2.2.2.1 u_r_13.2.2.2.2.2.2.2.2.2)))] H := hP
                  have hD : va_D A [(m0, .inr (8, [.ref mH, .int aM, .long aC, .int mM, .long mQ, .int oV, .int pL, .int lI, .int sW, .int dP, .int sT, .long aT, .int cH, .int u_r_13.1, .ref mI, .ref mJ, .ref mS, .ref mD, .int iH, .int aE, .int mN, .long sZ, .ref mX, .int tS, .int tA, .int tW, .ref mA, .ref mB, .ref mW, .ref mL, .int lS])), (mI, .inl (cL, 1200, .inr (.inl u_r_13.2.1))), (mJ, .inl (cI, 4, .inl (k4i u_r_13.2.2.1 u_r_13.2.2.2.1 u_r_13.2.2.2.2.1 u_r_13.2.2.2.2.2.1))), (mS, .inl (cI, 4, .inl (k4i u_r_13.2.2.2.2.2.2.1 0 u_r_13.2.2.2.2.2.2.2.2.1 u_r_13.2.2.2.2.2.2.2.2.2)))] := hD
                  refine lv_aload_n hx hb dX8_reaches_246 rfl (lv_at hl 2 rfl) ?_
                  refine lv_iconst (v := 0) hx hb dX8_reaches_247 (by decide) ?_
                  refine va_put (D := D) (ci := 8) (v := .int 0) (ty := .int) (C := RX8) (T := TX8) (N := 31) hx hb hts iX8_reaches_X8 tyX8 tyX8_ok nmX8 hown hK hP hD hS 0 rfl rfl 12 (by decide) (hts (.fieldLink RX8 43 "TapeCalculatorModel" "chosen" "I") (List.mem_of_getElem? (i := 1) rfl)) (fun _ h9 => h9) rfl (by decide +kernel) rfl rfl (Nat.le_of_ble_eq_true rfl) dX8_reaches_248 (fun H locs hP hD hS => ?_)
                  have hP : va_P D vwCl [(m0, .inr (8, [.ref mH, .int aM, .long aC, .int mM, .long mQ, .int oV, .int pL, .int lI, .int sW, .int dP, .int sT, .long aT, .int 0, .int u_r_13.1, .ref mI, .ref mJ, .ref mS, .ref mD, .int iH, .int aE, .int mN, .long sZ, .ref mX, .int tS, .int tA, .int tW, .ref mA, .ref mB, .ref mW, .ref mL, .int lS])), (mI, .inl (cL, 1200, .inr (.inl u_r_13.2.1))), (mJ, .inl (cI, 4, .inl (k4i u_r_13.2.2.1 u_r_13.2.2.2.1 u_r_13.2.2.2.2.1 u_r_13.2.2.2.2.2.1))), (mS, .inl (cI, 4, .inl (k4i u_r_13.2.2.2.2.2.2.1 0 u_r_13.2.2.2.2.2.2.2.2.1 u_r_13.2.2.2.2.2.2.2.2.2)))] H := hP
                  have hD : va_D A [(m0, .inr (8, [.ref mH, .int aM, .long aC, .int mM, .long mQ, .int oV, .int pL, .int lI, .int sW, .int dP, .int sT, .long aT, .int 0, .int u_r_13.1, .ref mI, .ref mJ, .ref mS, .ref mD, .int iH, .int aE, .int mN, .long sZ, .ref mX, .int tS, .int tA, .int tW, .ref mA, .ref mB, .ref mW, .ref mL, .int lS])), (mI, .inl (cL, 1200, .inr (.inl u_r_13.2.1))), (mJ, .inl (cI, 4, .inl (k4i u_r_13.2.2.1 u_r_13.2.2.2.1 u_r_13.2.2.2.2.1 u_r_13.2.2.2.2.2.1))), (mS, .inl (cI, 4, .inl (k4i u_r_13.2.2.2.2.2.2.1 0 u_r_13.2.2.2.2.2.2.2.2.1 u_r_13.2.2.2.2.2.2.2.2.2)))] := hD
                  refine lv_iconst (v := 0) hx hb dX8_reaches_251 (by decide) ?_
                  refine kIret (u := (pL, lI, dP, 0, u_r_13.1, u_r_13.2.1, u_r_13.2.2.1, u_r_13.2.2.2.1, u_r_13.2.2.2.2.1, u_r_13.2.2.2.2.2.1, u_r_13.2.2.2.2.2.2.1, 0, u_r_13.2.2.2.2.2.2.2.2.1, u_r_13.2.2.2.2.2.2.2.2.2)) hx hb hr rfl hlocks hS dX8_reaches_252 ?_ (hP.sub [0, 1, 2, 3] rfl) (hD.sub [0, 1, 2, 3] (by decide) rfl)
                  try dsimp only
                  repeat' (with_reducible apply And.intro)
                  all_goals first | with_reducible assumption | ((try simp only [jT_, jP_, jD_, jC_, jB_, jW_, Int32.reduceToInt, Int64.reduceToInt, true_or, or_true, true_and, and_true]) <;> omega)
                · refine lv_tableIn (tgt := 132) (off := 30) hx hb dX8_reaches_102 (by decide) (by decide) (by decide) (by decide) ?_
                  refine lv_aload_n hx hb dX8_reaches_132 rfl (lv_at hl 2 rfl) ?_
                  refine lv_iload_n hx hb dX8_reaches_133 rfl (lv_at hl 1 rfl) ?_
                  refine lv_if_eq (tgt := 142) hx hb dX8_reaches_134 (by decide) (fun c_134_26 => ?_) (fun c_134_26 => ?_)
                  · have t_134_26 := c_134_26
                    try simp only [kb_eq0, kb_ne0, lg_cmp_lt, lg_cmp_le, lg_cmp_gt, lg_cmp_ge, lg_cmp_eq] at t_134_26
                    try simp only [Int32.lt_iff_toInt_lt, Int32.le_iff_toInt_le, ← Int32.toInt_inj, Int64.lt_iff_toInt_lt, Int64.le_iff_toInt_le, ← Int64.toInt_inj, Int32.toInt_toInt64, Int32.reduceToInt, Int64.reduceToInt] at t_134_26
                    refine lv_iconst (v := 1) hx hb dX8_reaches_142 (by decide) ?_
                    refine lv_iload hx hb dX8_reaches_143 (lv_at hl 0 rfl) ?_
                    refine lv_iadd hx hb dX8_reaches_145 ?_
                    refine lv_topi (fun x_28 ex_28 => ?_)
                    obtain rfl : x_28 = 2 := ex_28.trans (by decide)
                    refine va_put (D := D) (ci := 8) (v := .int 2) (ty := .int) (C := RX8) (T := TX8) (N := 31) hx hb hts iX8_reaches_X8 tyX8 tyX8_ok nmX8 hown hK hP hD hS 0 rfl rfl 12 (by decide) (hts (.fieldLink RX8 43 "TapeCalculatorModel" "chosen" "I") (List.mem_of_getElem? (i := 1) rfl)) (fun _ h9 => h9) rfl (by decide +kernel) rfl rfl (Nat.le_of_ble_eq_true rfl) dX8_reaches_146 (fun H locs hP hD hS => ?_)
                    have hP : va_P D vwCl [(m0, .inr (8, [.ref mH, .int aM, .long aC, .int mM, .long mQ, .int oV, .int pL, .int lI, .int sW, .int dP, .int sT, .long aT, .int 2, .int u_r_13.1, .ref mI, .ref mJ, .ref mS, .ref mD, .int iH, .int aE, .int mN, .long sZ, .ref mX, .int tS, .int tA, .int tW, .ref mA, .ref mB, .ref mW, .ref mL, .int lS])), (mI, .inl (cL, 1200, .inr (.inl u_r_13.2.1))), (mJ, .inl (cI, 4, .inl (k4i u_r_13.2.2.1 u_r_13.2.2.2.1 u_r_13.2.2.2.2.1 u_r_13.2.2.2.2.2.1))), (mS, .inl (cI, 4, .inl (k4i u_r_13.2.2.2.2.2.2.1 u_r_13.2.2.2.2.2.2.2.1 u_r_13.2.2.2.2.2.2.2.2.1 u_r_13.2.2.2.2.2.2.2.2.2)))] H := hP
                    have hD : va_D A [(m0, .inr (8, [.ref mH, .int aM, .long aC, .int mM, .long mQ, .int oV, .int pL, .int lI, .int sW, .int dP, .int sT, .long aT, .int 2, .int u_r_13.1, .ref mI, .ref mJ, .ref mS, .ref mD, .int iH, .int aE, .int mN, .long sZ, .ref mX, .int tS, .int tA, .int tW, .ref mA, .ref mB, .ref mW, .ref mL, .int lS])), (mI, .inl (cL, 1200, .inr (.inl u_r_13.2.1))), (mJ, .inl (cI, 4, .inl (k4i u_r_13.2.2.1 u_r_13.2.2.2.1 u_r_13.2.2.2.2.1 u_r_13.2.2.2.2.2.1))), (mS, .inl (cI, 4, .inl (k4i u_r_13.2.2.2.2.2.2.1 u_r_13.2.2.2.2.2.2.2.1 u_r_13.2.2.2.2.2.2.2.2.1 u_r_13.2.2.2.2.2.2.2.2.2)))] := hD
                    refine lv_goto (tgt := 251) hx hb dX8_reaches_149 (by decide) ?_
                    refine lv_iconst (v := 0) hx hb dX8_reaches_251 (by decide) ?_
                    refine kIret (u := (pL, lI, dP, 2, u_r_13.1, u_r_13.2.1, u_r_13.2.2.1, u_r_13.2.2.2.1, u_r_13.2.2.2.2.1, u_r_13.2.2.2.2.2.1, u_r_13.2.2.2.2.2.2.1, u_r_13.2.2.2.2.2.2.2.1, u_r_13.2.2.2.2.2.2.2.2.1, u_r_13.2.2.2.2.2.2.2.2.2)) hx hb hr rfl hlocks hS dX8_reaches_252 ?_ (hP.sub [0, 1, 2, 3] rfl) (hD.sub [0, 1, 2, 3] (by decide) rfl)
                    try dsimp only
                    repeat' (with_reducible apply And.intro)
                    all_goals first | with_reducible assumption | ((try simp only [jT_, jP_, jD_, jC_, jB_, jW_, Int32.reduceToInt, Int64.reduceToInt, true_or, or_true, true_and, and_true]) <;> omega)
                  · exact absurd (by decide) c_134_26
                · refine lv_tableIn (tgt := 152) (off := 50) hx hb dX8_reaches_102 (by decide) (by decide) (by decide) (by decide) ?_
                  refine lv_aload_n hx hb dX8_reaches_152 rfl (lv_at hl 2 rfl) ?_
                  refine lv_iconst (v := 5) hx hb dX8_reaches_153 (by decide) ?_
                  refine lv_iload hx hb dX8_reaches_154 (lv_at hl 0 rfl) ?_
                  refine lv_iadd hx hb dX8_reaches_156 ?_
                  refine lv_topi (fun x_29 ex_29 => ?_)
                  obtain rfl : x_29 = 6 := ex_29.trans (by decide)
                  refine va_put (D := D) (ci := 8) (v := .int 6) (ty := .int) (C := RX8) (T := TX8) (N := 31) hx hb hts iX8_reaches_X8 tyX8 tyX8_ok nmX8 hown hK hP hD hS 0 rfl rfl 12 (by decide) (hts (.fieldLink RX8 43 "TapeCalculatorModel" "chosen" "I") (List.mem_of_getElem? (i := 1) rfl)) (fun _ h9 => h9) rfl (by decide +kernel) rfl rfl (Nat.le_of_ble_eq_true rfl) dX8_reaches_157 (fun H locs hP hD hS => ?_)
                  have hP : va_P D vwCl [(m0, .inr (8, [.ref mH, .int aM, .long aC, .int mM, .long mQ, .int oV, .int pL, .int lI, .int sW, .int dP, .int sT, .long aT, .int 6, .int u_r_13.1, .ref mI, .ref mJ, .ref mS, .ref mD, .int iH, .int aE, .int mN, .long sZ, .ref mX, .int tS, .int tA, .int tW, .ref mA, .ref mB, .ref mW, .ref mL, .int lS])), (mI, .inl (cL, 1200, .inr (.inl u_r_13.2.1))), (mJ, .inl (cI, 4, .inl (k4i u_r_13.2.2.1 u_r_13.2.2.2.1 u_r_13.2.2.2.2.1 u_r_13.2.2.2.2.2.1))), (mS, .inl (cI, 4, .inl (k4i u_r_13.2.2.2.2.2.2.1 u_r_13.2.2.2.2.2.2.2.1 u_r_13.2.2.2.2.2.2.2.2.1 u_r_13.2.2.2.2.2.2.2.2.2)))] H := hP
                  have hD : va_D A [(m0, .inr (8, [.ref mH, .int aM, .long aC, .int mM, .long mQ, .int oV, .int pL, .int lI, .int sW, .int dP, .int sT, .long aT, .int 6, .int u_r_13.1, .ref mI, .ref mJ, .ref mS, .ref mD, .int iH, .int aE, .int mN, .long sZ, .ref mX, .int tS, .int tA, .int tW, .ref mA, .ref mB, .ref mW, .ref mL, .int lS])), (mI, .inl (cL, 1200, .inr (.inl u_r_13.2.1))), (mJ, .inl (cI, 4, .inl (k4i u_r_13.2.2.1 u_r_13.2.2.2.1 u_r_13.2.2.2.2.1 u_r_13.2.2.2.2.2.1))), (mS, .inl (cI, 4, .inl (k4i u_r_13.2.2.2.2.2.2.1 u_r_13.2.2.2.2.2.2.2.1 u_r_13.2.2.2.2.2.2.2.2.1 u_r_13.2.2.2.2.2.2.2.2.2)))] := hD
                  refine lv_goto (tgt := 251) hx hb dX8_reaches_160 (by decide) ?_
                  refine lv_iconst (v := 0) hx hb dX8_reaches_251 (by decide) ?_
                  refine kIret (u := (pL, lI, dP, 6, u_r_13.1, u_r_13.2.1, u_r_13.2.2.1, u_r_13.2.2.2.1, u_r_13.2.2.2.2.1, u_r_13.2.2.2.2.2.1, u_r_13.2.2.2.2.2.2.1, u_r_13.2.2.2.2.2.2.2.1, u_r_13.2.2.2.2.2.2.2.2.1, u_r_13.2.2.2.2.2.2.2.2.2)) hx hb hr rfl hlocks hS dX8_reaches_252 ?_ (hP.sub [0, 1, 2, 3] rfl) (hD.sub [0, 1, 2, 3] (by decide) rfl)
                  try dsimp only
                  repeat' (with_reducible apply And.intro)
                  all_goals first | with_reducible assumption | ((try simp only [jT_, jP_, jD_, jC_, jB_, jW_, Int32.reduceToInt, Int64.reduceToInt, true_or, or_true, true_and, and_true]) <;> omega)
                · refine lv_tableIn (tgt := 163) (off := 61) hx hb dX8_reaches_102 (by decide) (by decide) (by decide) (by decide) ?_
                  refine lv_iload_n hx hb dX8_reaches_163 rfl (lv_at hl 1 rfl) ?_
                  refine lv_if_ne (tgt := 181) hx hb dX8_reaches_164 (by decide) (fun c_164_29 => ?_) (fun c_164_29 => ?_)
                  · exact absurd (by decide) c_164_29
                  · have t_164_29 := c_164_29
                    try simp only [kb_eq0, kb_ne0, lg_cmp_lt, lg_cmp_le, lg_cmp_gt, lg_cmp_ge, lg_cmp_eq] at t_164_29
                    try simp only [Int32.lt_iff_toInt_lt, Int32.le_iff_toInt_le, ← Int32.toInt_inj, Int64.lt_iff_toInt_lt, Int64.le_iff_toInt_le, ← Int64.toInt_inj, Int32.toInt_toInt64, Int32.reduceToInt, Int64.reduceToInt] at t_164_29
                    refine lv_aload_n hx hb dX8_reaches_167 rfl (lv_at hl 2 rfl) ?_
                    refine va_get (D := D) (ci := 8) (v := .ref mJ) (C := RX8) (T := TX8) (N := 31) hx hb hts iX8_reaches_X8 hown hK hP 0 rfl rfl 15 (by decide) (hts (.fieldLink RX8 17 "TapeCalculatorModel" "items" "[I") (List.mem_of_getElem? (i := 5) rfl)) (fun _ h9 => h9) rfl dX8_reaches_168 ?_
                    refine lv_iload hx hb dX8_reaches_171 (lv_at hl 0 rfl) ?_
                    refine lv_aload_n hx hb dX8_reaches_173 rfl (lv_at hl 2 rfl) ?_
                    refine va_get (D := D) (ci := 8) (v := .ref mS) (C := RX8) (T := TX8) (N := 31) hx hb hts iX8_reaches_X8 hown hK hP 0 rfl rfl 16 (by decide) (hts (.fieldLink RX8 20 "TapeCalculatorModel" "stands" "[I") (List.mem_of_getElem? (i := 6) rfl)) (fun _ h9 => h9) rfl dX8_reaches_174 ?_
                    refine lv_iload hx hb dX8_reaches_177 (lv_at hl 0 rfl) ?_
                    refine va_iald hx hb hK hP 3 0 rfl rfl (vp_in_iff.mpr (by decide)) dX8_reaches_179 ?_
                    refine lv_topi (fun x_31 ex_31 => ?_)
                    obtain rfl : u_r_13.2.2.2.2.2.2.2.1 = x_31 := ex_31.symm
                    refine va_iast hx hb hK hP hD hS 2 0 rfl rfl (vp_in_iff.mpr (by decide)) dX8_reaches_180 (fun H locs hP hD hS => ?_)
                    rw [k4i_1] at hP hD
                    have hP : va_P D vwCl [(m0, .inr (8, [.ref mH, .int aM, .long aC, .int mM, .long mQ, .int oV, .int pL, .int lI, .int sW, .int dP, .int sT, .long aT, .int cH, .int u_r_13.1, .ref mI, .ref mJ, .ref mS, .ref mD, .int iH, .int aE, .int mN, .long sZ, .ref mX, .int tS, .int tA, .int tW, .ref mA, .ref mB, .ref mW, .ref mL, .int lS])), (mI, .inl (cL, 1200, .inr (.inl u_r_13.2.1))), (mJ, .inl (cI, 4, .inl (k4i u_r_13.2.2.1 (u_r_13.2.2.2.2.2.2.2.1) u_r_13.2.2.2.2.1 u_r_13.2.2.2.2.2.1))), (mS, .inl (cI, 4, .inl (k4i u_r_13.2.2.2.2.2.2.1 u_r_13.2.2.2.2.2.2.2.1 u_r_13.2.2.2.2.2.2.2.2.1 u_r_13.2.2.2.2.2.2.2.2.2)))] H := hP
                    have hD : va_D A [(m0, .inr (8, [.ref mH, .int aM, .long aC, .int mM, .long mQ, .int oV, .int pL, .int lI, .int sW, .int dP, .int sT, .long aT, .int cH, .int u_r_13.1, .ref mI, .ref mJ, .ref mS, .ref mD, .int iH, .int aE, .int mN, .long sZ, .ref mX, .int tS, .int tA, .int tW, .ref mA, .ref mB, .ref mW, .ref mL, .int lS])), (mI, .inl (cL, 1200, .inr (.inl u_r_13.2.1))), (mJ, .inl (cI, 4, .inl (k4i u_r_13.2.2.1 (u_r_13.2.2.2.2.2.2.2.1) u_r_13.2.2.2.2.1 u_r_13.2.2.2.2.2.1))), (mS, .inl (cI, 4, .inl (k4i u_r_13.2.2.2.2.2.2.1 u_r_13.2.2.2.2.2.2.2.1 u_r_13.2.2.2.2.2.2.2.2.1 u_r_13.2.2.2.2.2.2.2.2.2)))] := hD
                    refine lv_aload_n hx hb dX8_reaches_181 rfl (lv_at hl 2 rfl) ?_
                    refine lv_iload_n hx hb dX8_reaches_182 rfl (lv_at hl 1 rfl) ?_
                    refine lv_if_eq (tgt := 191) hx hb dX8_reaches_183 (by decide) (fun c_183_31 => ?_) (fun c_183_31 => ?_)
                    · have t_183_31 := c_183_31
                      try simp only [kb_eq0, kb_ne0, lg_cmp_lt, lg_cmp_le, lg_cmp_gt, lg_cmp_ge, lg_cmp_eq] at t_183_31
                      try simp only [Int32.lt_iff_toInt_lt, Int32.le_iff_toInt_le, ← Int32.toInt_inj, Int64.lt_iff_toInt_lt, Int64.le_iff_toInt_le, ← Int64.toInt_inj, Int32.toInt_toInt64, Int32.reduceToInt, Int64.reduceToInt] at t_183_31
                      refine lv_bipush (v := 9) hx hb dX8_reaches_191 (by decide) ?_
                      refine lv_iload hx hb dX8_reaches_193 (lv_at hl 0 rfl) ?_
                      refine lv_iadd hx hb dX8_reaches_195 ?_
                      refine lv_topi (fun x_33 ex_33 => ?_)
                      obtain rfl : x_33 = 10 := ex_33.trans (by decide)
                      refine va_put (D := D) (ci := 8) (v := .int 10) (ty := .int) (C := RX8) (T := TX8) (N := 31) hx hb hts iX8_reaches_X8 tyX8 tyX8_ok nmX8 hown hK hP hD hS 0 rfl rfl 12 (by decide) (hts (.fieldLink RX8 43 "TapeCalculatorModel" "chosen" "I") (List.mem_of_getElem? (i := 1) rfl)) (fun _ h9 => h9) rfl (by decide +kernel) rfl rfl (Nat.le_of_ble_eq_true rfl) dX8_reaches_196 (fun H locs hP hD hS => ?_)
                      have hP : va_P D vwCl [(m0, .inr (8, [.ref mH, .int aM, .long aC, .int mM, .long mQ, .int oV, .int pL, .int lI, .int sW, .int dP, .int sT, .long aT, .int 10, .int u_r_13.1, .ref mI, .ref mJ, .ref mS, .ref mD, .int iH, .int aE, .int mN, .long sZ, .ref mX, .int tS, .int tA, .int tW, .ref mA, .ref mB, .ref mW, .ref mL, .int lS])), (mI, .inl (cL, 1200, .inr (.inl u_r_13.2.1))), (mJ, .inl (cI, 4, .inl (k4i u_r_13.2.2.1 (u_r_13.2.2.2.2.2.2.2.1) u_r_13.2.2.2.2.1 u_r_13.2.2.2.2.2.1))), (mS, .inl (cI, 4, .inl (k4i u_r_13.2.2.2.2.2.2.1 u_r_13.2.2.2.2.2.2.2.1 u_r_13.2.2.2.2.2.2.2.2.1 u_r_13.2.2.2.2.2.2.2.2.2)))] H := hP
                      have hD : va_D A [(m0, .inr (8, [.ref mH, .int aM, .long aC, .int mM, .long mQ, .int oV, .int pL, .int lI, .int sW, .int dP, .int sT, .long aT, .int 10, .int u_r_13.1, .ref mI, .ref mJ, .ref mS, .ref mD, .int iH, .int aE, .int mN, .long sZ, .ref mX, .int tS, .int tA, .int tW, .ref mA, .ref mB, .ref mW, .ref mL, .int lS])), (mI, .inl (cL, 1200, .inr (.inl u_r_13.2.1))), (mJ, .inl (cI, 4, .inl (k4i u_r_13.2.2.1 (u_r_13.2.2.2.2.2.2.2.1) u_r_13.2.2.2.2.1 u_r_13.2.2.2.2.2.1))), (mS, .inl (cI, 4, .inl (k4i u_r_13.2.2.2.2.2.2.1 u_r_13.2.2.2.2.2.2.2.1 u_r_13.2.2.2.2.2.2.2.2.1 u_r_13.2.2.2.2.2.2.2.2.2)))] := hD
                      refine lv_goto (tgt := 251) hx hb dX8_reaches_199 (by decide) ?_
                      refine lv_iconst (v := 0) hx hb dX8_reaches_251 (by decide) ?_
                      refine kIret (u := (pL, lI, dP, 10, u_r_13.1, u_r_13.2.1, u_r_13.2.2.1, (u_r_13.2.2.2.2.2.2.2.1), u_r_13.2.2.2.2.1, u_r_13.2.2.2.2.2.1, u_r_13.2.2.2.2.2.2.1, u_r_13.2.2.2.2.2.2.2.1, u_r_13.2.2.2.2.2.2.2.2.1, u_r_13.2.2.2.2.2.2.2.2.2)) hx hb hr rfl hlocks hS dX8_reaches_252 ?_ (hP.sub [0, 1, 2, 3] rfl) (hD.sub [0, 1, 2, 3] (by decide) rfl)
                      try dsimp only
                      repeat' (with_reducible apply And.intro)
                      all_goals first | with_reducible assumption | ((try simp only [jT_, jP_, jD_, jC_, jB_, jW_, Int32.reduceToInt, Int64.reduceToInt, true_or, or_true, true_and, and_true]) <;> omega)
                    · exact absurd (by decide) c_183_31
                · refine lv_tableIn (tgt := 202) (off := 100) hx hb dX8_reaches_102 (by decide) (by decide) (by decide) (by decide) ?_
                  refine lv_aload_n hx hb dX8_reaches_202 rfl (lv_at hl 2 rfl) ?_
                  refine va_get (D := D) (ci := 8) (v := .ref mJ) (C := RX8) (T := TX8) (N := 31) hx hb hts iX8_reaches_X8 hown hK hP 0 rfl rfl 15 (by decide) (hts (.fieldLink RX8 17 "TapeCalculatorModel" "items" "[I") (List.mem_of_getElem? (i := 5) rfl)) (fun _ h9 => h9) rfl dX8_reaches_203 ?_
                  refine lv_iload hx hb dX8_reaches_206 (lv_at hl 0 rfl) ?_
                  refine lv_aload_n hx hb dX8_reaches_208 rfl (lv_at hl 2 rfl) ?_
                  refine va_get (D := D) (ci := 8) (v := .ref mS) (C := RX8) (T := TX8) (N := 31) hx hb hts iX8_reaches_X8 hown hK hP 0 rfl rfl 16 (by decide) (hts (.fieldLink RX8 20 "TapeCalculatorModel" "stands" "[I") (List.mem_of_getElem? (i := 6) rfl)) (fun _ h9 => h9) rfl dX8_reaches_209 ?_
                  refine lv_iload hx hb dX8_reaches_212 (lv_at hl 0 rfl) ?_
                  refine va_iald hx hb hK hP 3 0 rfl rfl (vp_in_iff.mpr (by decide)) dX8_reaches_214 ?_
                  refine lv_topi (fun x_34 ex_34 => ?_)
                  obtain rfl : u_r_13.2.2.2.2.2.2.2.1 = x_34 := ex_34.symm
                  refine va_iast hx hb hK hP hD hS 2 0 rfl rfl (vp_in_iff.mpr (by decide)) dX8_reaches_215 (fun H locs hP hD hS => ?_)
                  rw [k4i_1] at hP hD
                  have hP : va_P D vwCl [(m0, .inr (8, [.ref mH, .int aM, .long aC, .int mM, .long mQ, .int oV, .int pL, .int lI, .int sW, .int dP, .int sT, .long aT, .int cH, .int u_r_13.1, .ref mI, .ref mJ, .ref mS, .ref mD, .int iH, .int aE, .int mN, .long sZ, .ref mX, .int tS, .int tA, .int tW, .ref mA, .ref mB, .ref mW, .ref mL, .int lS])), (mI, .inl (cL, 1200, .inr (.inl u_r_13.2.1))), (mJ, .inl (cI, 4, .inl (k4i u_r_13.2.2.1 (u_r_13.2.2.2.2.2.2.2.1) u_r_13.2.2.2.2.1 u_r_13.2.2.2.2.2.1))), (mS, .inl (cI, 4, .inl (k4i u_r_13.2.2.2.2.2.2.1 u_r_13.2.2.2.2.2.2.2.1 u_r_13.2.2.2.2.2.2.2.2.1 u_r_13.2.2.2.2.2.2.2.2.2)))] H := hP
                  have hD : va_D A [(m0, .inr (8, [.ref mH, .int aM, .long aC, .int mM, .long mQ, .int oV, .int pL, .int lI, .int sW, .int dP, .int sT, .long aT, .int cH, .int u_r_13.1, .ref mI, .ref mJ, .ref mS, .ref mD, .int iH, .int aE, .int mN, .long sZ, .ref mX, .int tS, .int tA, .int tW, .ref mA, .ref mB, .ref mW, .ref mL, .int lS])), (mI, .inl (cL, 1200, .inr (.inl u_r_13.2.1))), (mJ, .inl (cI, 4, .inl (k4i u_r_13.2.2.1 (u_r_13.2.2.2.2.2.2.2.1) u_r_13.2.2.2.2.1 u_r_13.2.2.2.2.2.1))), (mS, .inl (cI, 4, .inl (k4i u_r_13.2.2.2.2.2.2.1 u_r_13.2.2.2.2.2.2.2.1 u_r_13.2.2.2.2.2.2.2.2.1 u_r_13.2.2.2.2.2.2.2.2.2)))] := hD
                  refine lv_aload_n hx hb dX8_reaches_216 rfl (lv_at hl 2 rfl) ?_
                  refine lv_iload hx hb dX8_reaches_217 (lv_at hl 0 rfl) ?_
                  refine lv_ldc2 (v := (-3)) hx hb hown (hts (.constantLong RX8 113 (-3)) (List.mem_of_getElem? (i := 7) rfl)) dX8_reaches_219 ?_
                  refine kCallI (wr := []) (va_runV (As := [.int 1, .long (-3)]) (rest := []) ⟨hx, hb, hml, hown, hts⟩ (q_puts l D cI cL cB cZ cT _ m0 mH mI mJ mS mD mX mA mB mW mL aM aC mM mQ oV pL lI sW dP sT aT cH (u_r_13.1) iH aE mN sZ tS tA tW lS (u_r_13.2.1) (u_r_13.2.2.1) (u_r_13.2.2.2.2.2.2.2.1) (u_r_13.2.2.2.2.1) (u_r_13.2.2.2.2.2.1) (u_r_13.2.2.2.2.2.2.1) (u_r_13.2.2.2.2.2.2.2.1) (u_r_13.2.2.2.2.2.2.2.2.1) (u_r_13.2.2.2.2.2.2.2.2.2) 1 (-3) (by first | with_reducible assumption | ((try simp only [jT_, jP_, jD_, jC_, jB_, jW_, Int32.reduceToInt, Int64.reduceToInt, true_or, or_true, true_and, and_true]) <;> omega)) (by first | with_reducible assumption | ((try simp only [jT_, jP_, jD_, jC_, jB_, jW_, Int32.reduceToInt, Int64.reduceToInt, true_or, or_true, true_and, and_true]) <;> omega)) (by first | with_reducible assumption | ((try simp only [jT_, jP_, jD_, jC_, jB_, jW_, Int32.reduceToInt, Int64.reduceToInt, true_or, or_true, true_and, and_true]) <;> omega)) (by first | with_reducible assumption | ((try simp only [jT_, jP_, jD_, jC_, jB_, jW_, Int32.reduceToInt, Int64.reduceToInt, true_or, or_true, true_and, and_true]) <;> omega)) (by decide)) (cwV 2 hts gX8_reaches_X8_puts rfl rfl rfl (by decide +kernel) ⟨Nat.le_of_ble_eq_true rfl, Nat.le_of_ble_eq_true rfl⟩) (kPreV hG hP hD [0, 1, 2, 3] rfl (by decide) 0 8 rfl rfl rfl) rfl rfl hl.1 rfl (lv_room (Nat.le_of_ble_eq_true rfl)) dX8_reaches_222 ⟨Nat.le_of_ble_eq_true rfl, Nat.le_of_ble_eq_true rfl⟩) hA hP hD hS [0, 1, 2, 3] [] rfl rfl (by decide) (by decide) (fun r_35 u_r_35 H locs wr_35 hP hD hS => ?_)
                  have hP : va_P D vwCl [(m0, .inr (8, [.ref mH, .int aM, .long aC, .int mM, .long mQ, .int oV, .int pL, .int lI, .int sW, .int dP, .int sT, .long aT, .int cH, .int u_r_13.1, .ref mI, .ref mJ, .ref mS, .ref mD, .int iH, .int aE, .int mN, .long sZ, .ref mX, .int tS, .int tA, .int tW, .ref mA, .ref mB, .ref mW, .ref mL, .int lS])), (mI, .inl (cL, 1200, .inr (.inl u_r_35.1))), (mJ, .inl (cI, 4, .inl (k4i u_r_35.2.1 u_r_35.2.2.1 u_r_35.2.2.2.1 u_r_35.2.2.2.2.1))), (mS, .inl (cI, 4, .inl (k4i u_r_35.2.2.2.2.2.1 u_r_35.2.2.2.2.2.2.1 u_r_35.2.2.2.2.2.2.2.1 u_r_35.2.2.2.2.2.2.2.2)))] H := hP
                  have hD : va_D A [(m0, .inr (8, [.ref mH, .int aM, .long aC, .int mM, .long mQ, .int oV, .int pL, .int lI, .int sW, .int dP, .int sT, .long aT, .int cH, .int u_r_13.1, .ref mI, .ref mJ, .ref mS, .ref mD, .int iH, .int aE, .int mN, .long sZ, .ref mX, .int tS, .int tA, .int tW, .ref mA, .ref mB, .ref mW, .ref mL, .int lS])), (mI, .inl (cL, 1200, .inr (.inl u_r_35.1))), (mJ, .inl (cI, 4, .inl (k4i u_r_35.2.1 u_r_35.2.2.1 u_r_35.2.2.2.1 u_r_35.2.2.2.2.1))), (mS, .inl (cI, 4, .inl (k4i u_r_35.2.2.2.2.2.1 u_r_35.2.2.2.2.2.2.1 u_r_35.2.2.2.2.2.2.2.1 u_r_35.2.2.2.2.2.2.2.2)))] := hD
                  try dsimp only at wr_35
                  try simp only [Int32.reduceToInt, Int64.reduceToInt] at wr_35
                  obtain ⟨wr_35_0, wr_35_1, wr_35_2, wr_35_3, wr_35_4⟩ := wr_35
                  refine lv_if_ne (tgt := 230) hx hb dX8_reaches_225 (by decide) (fun c_225_35 => ?_) (fun c_225_35 => ?_)
                  · have t_225_35 := c_225_35
                    try simp only [kb_eq0, kb_ne0, lg_cmp_lt, lg_cmp_le, lg_cmp_gt, lg_cmp_ge, lg_cmp_eq] at t_225_35
                    try simp only [Int32.lt_iff_toInt_lt, Int32.le_iff_toInt_le, ← Int32.toInt_inj, Int64.lt_iff_toInt_lt, Int64.le_iff_toInt_le, ← Int64.toInt_inj, Int32.toInt_toInt64, Int32.reduceToInt, Int64.reduceToInt] at t_225_35
                    refine lv_aload_n hx hb dX8_reaches_230 rfl (lv_at hl 2 rfl) ?_
                    refine lv_iconst (v := 0) hx hb dX8_reaches_231 (by decide) ?_
                    refine va_put (D := D) (ci := 8) (v := .int 0) (ty := .int) (C := RX8) (T := TX8) (N := 31) hx hb hts iX8_reaches_X8 tyX8 tyX8_ok nmX8 hown hK hP hD hS 0 rfl rfl 12 (by decide) (hts (.fieldLink RX8 43 "TapeCalculatorModel" "chosen" "I") (List.mem_of_getElem? (i := 1) rfl)) (fun _ h9 => h9) rfl (by decide +kernel) rfl rfl (Nat.le_of_ble_eq_true rfl) dX8_reaches_232 (fun H locs hP hD hS => ?_)
                    have hP : va_P D vwCl [(m0, .inr (8, [.ref mH, .int aM, .long aC, .int mM, .long mQ, .int oV, .int pL, .int lI, .int sW, .int dP, .int sT, .long aT, .int 0, .int u_r_13.1, .ref mI, .ref mJ, .ref mS, .ref mD, .int iH, .int aE, .int mN, .long sZ, .ref mX, .int tS, .int tA, .int tW, .ref mA, .ref mB, .ref mW, .ref mL, .int lS])), (mI, .inl (cL, 1200, .inr (.inl u_r_35.1))), (mJ, .inl (cI, 4, .inl (k4i u_r_35.2.1 u_r_35.2.2.1 u_r_35.2.2.2.1 u_r_35.2.2.2.2.1))), (mS, .inl (cI, 4, .inl (k4i u_r_35.2.2.2.2.2.1 u_r_35.2.2.2.2.2.2.1 u_r_35.2.2.2.2.2.2.2.1 u_r_35.2.2.2.2.2.2.2.2)))] H := hP
                    have hD : va_D A [(m0, .inr (8, [.ref mH, .int aM, .long aC, .int mM, .long mQ, .int oV, .int pL, .int lI, .int sW, .int dP, .int sT, .long aT, .int 0, .int u_r_13.1, .ref mI, .ref mJ, .ref mS, .ref mD, .int iH, .int aE, .int mN, .long sZ, .ref mX, .int tS, .int tA, .int tW, .ref mA, .ref mB, .ref mW, .ref mL, .int lS])), (mI, .inl (cL, 1200, .inr (.inl u_r_35.1))), (mJ, .inl (cI, 4, .inl (k4i u_r_35.2.1 u_r_35.2.2.1 u_r_35.2.2.2.1 u_r_35.2.2.2.2.1))), (mS, .inl (cI, 4, .inl (k4i u_r_35.2.2.2.2.2.1 u_r_35.2.2.2.2.2.2.1 u_r_35.2.2.2.2.2.2.2.1 u_r_35.2.2.2.2.2.2.2.2)))] := hD
                    refine lv_goto (tgt := 251) hx hb dX8_reaches_235 (by decide) ?_
                    refine lv_iconst (v := 0) hx hb dX8_reaches_251 (by decide) ?_
                    refine kIret (u := (pL, lI, dP, 0, u_r_13.1, u_r_35.1, u_r_35.2.1, u_r_35.2.2.1, u_r_35.2.2.2.1, u_r_35.2.2.2.2.1, u_r_35.2.2.2.2.2.1, u_r_35.2.2.2.2.2.2.1, u_r_35.2.2.2.2.2.2.2.1, u_r_35.2.2.2.2.2.2.2.2)) hx hb hr rfl hlocks hS dX8_reaches_252 ?_ (hP.sub [0, 1, 2, 3] rfl) (hD.sub [0, 1, 2, 3] (by decide) rfl)
                    try dsimp only
                    repeat' (with_reducible apply And.intro)
                    all_goals first | with_reducible assumption | ((try simp only [jT_, jP_, jD_, jC_, jB_, jW_, Int32.reduceToInt, Int64.reduceToInt, true_or, or_true, true_and, and_true]) <;> omega)
                  · have t_225_35 := c_225_35
                    try simp only [kb_eq0, kb_ne0, lg_cmp_lt, lg_cmp_le, lg_cmp_gt, lg_cmp_ge, lg_cmp_eq] at t_225_35
                    try simp only [Int32.lt_iff_toInt_lt, Int32.le_iff_toInt_le, ← Int32.toInt_inj, Int64.lt_iff_toInt_lt, Int64.le_iff_toInt_le, ← Int64.toInt_inj, Int32.toInt_toInt64, Int32.reduceToInt, Int64.reduceToInt] at t_225_35
                    refine lv_iconst (v := 5) hx hb dX8_reaches_228 (by decide) ?_
                    refine kIret (u := (pL, lI, dP, cH, u_r_13.1, u_r_35.1, u_r_35.2.1, u_r_35.2.2.1, u_r_35.2.2.2.1, u_r_35.2.2.2.2.1, u_r_35.2.2.2.2.2.1, u_r_35.2.2.2.2.2.2.1, u_r_35.2.2.2.2.2.2.2.1, u_r_35.2.2.2.2.2.2.2.2)) hx hb hr rfl hlocks hS dX8_reaches_229 ?_ (hP.sub [0, 1, 2, 3] rfl) (hD.sub [0, 1, 2, 3] (by decide) rfl)
                    try dsimp only
                    repeat' (with_reducible apply And.intro)
                    all_goals first | with_reducible assumption | ((try simp only [jT_, jP_, jD_, jC_, jB_, jW_, Int32.reduceToInt, Int64.reduceToInt, true_or, or_true, true_and, and_true]) <;> omega)
              · have hu : 0 ≤ (u_r_13.2.2.2.2.2.2.2.2.1).toInt ∧ (u_r_13.2.2.2.2.2.2.2.2.1).toInt ≤ (u_r_13.2.2.2.2.1).toInt ∧ (u_r_13.2.2.2.2.1).toInt ≤ 300 := wr_13_5
                refine lv_iload_n hx hb dX8_reaches_94 rfl (lv_at hl 3 rfl) ?_
                refine lv_sipush (v := 256) hx hb dX8_reaches_95 (by decide) ?_
                refine lv_isub hx hb dX8_reaches_98 ?_
                refine lv_topi (fun x_37 ex_37 => ?_)
                obtain rfl : x_37 = 2 := ex_37.trans (by decide)
                refine lv_istore (lv' := [(4, .int 2), (3, .int 0), (0, .ref m0), (1, .int a), (2, .int 258)]) hx hb dX8_reaches_99 hl (by decide) rfl (fun ls hl => ?_)
                refine lv_iload_n hx hb dX8_reaches_101 rfl (lv_at hl 3 rfl) ?_
                rcases ksw_24_27 a with hsw | rfl | rfl | rfl | rfl
                · refine lv_tableOut (tgt := 238) hx hb dX8_reaches_102 hsw (by decide) ?_
                  refine lv_aload_n hx hb dX8_reaches_238 rfl (lv_at hl 2 rfl) ?_
                  refine va_get (D := D) (ci := 8) (v := .ref mS) (C := RX8) (T := TX8) (N := 31) hx hb hts iX8_reaches_X8 hown hK hP 0 rfl rfl 16 (by decide) (hts (.fieldLink RX8 20 "TapeCalculatorModel" "stands" "[I") (List.mem_of_getElem? (i := 6) rfl)) (fun _ h9 => h9) rfl dX8_reaches_239 ?_
                  refine lv_iload hx hb dX8_reaches_242 (lv_at hl 0 rfl) ?_
                  refine lv_iconst (v := 0) hx hb dX8_reaches_244 (by decide) ?_
                  refine va_iast hx hb hK hP hD hS 3 0 rfl rfl (vp_in_iff.mpr (by decide)) dX8_reaches_245 (fun H locs hP hD hS => ?_)
                  rw [k4i_2] at hP hD
                  have hP : va_P D vwCl [(m0, .inr (8, [.ref mH, .int aM, .long aC, .int mM, .long mQ, .int oV, .int pL, .int lI, .int sW, .int dP, .int sT, .long aT, .int cH, .int u_r_13.1, .ref mI, .ref mJ, .ref mS, .ref mD, .int iH, .int aE, .int mN, .long sZ, .ref mX, .int tS, .int tA, .int tW, .ref mA, .ref mB, .ref mW, .ref mL, .int lS])), (mI, .inl (cL, 1200, .inr (.inl u_r_13.2.1))), (mJ, .inl (cI, 4, .inl (k4i u_r_13.2.2.1 u_r_13.2.2.2.1 u_r_13.2.2.2.2.1 u_r_13.2.2.2.2.2.1))), (mS, .inl (cI, 4, .inl (k4i u_r_13.2.2.2.2.2.2.1 u_r_13.2.2.2.2.2.2.2.1 0 u_r_13.2.2.2.2.2.2.2.2.2)))] H := hP
                  have hD : va_D A [(m0, .inr (8, [.ref mH, .int aM, .long aC, .int mM, .long mQ, .int oV, .int pL, .int lI, .int sW, .int dP, .int sT, .long aT, .int cH, .int u_r_13.1, .ref mI, .ref mJ, .ref mS, .ref mD, .int iH, .int aE, .int mN, .long sZ, .ref mX, .int tS, .int tA, .int tW, .ref mA, .ref mB, .ref mW, .ref mL, .int lS])), (mI, .inl (cL, 1200, .inr (.inl u_r_13.2.1))), (mJ, .inl (cI, 4, .inl (k4i u_r_13.2.2.1 u_r_13.2.2.2.1 u_r_13.2.2.2.2.1 u_r_13.2.2.2.2.2.1))), (mS, .inl (cI, 4, .inl (k4i u_r_13.2.2.2.2.2.2.1 u_r_13.2.2.2.2.2.2.2.1 0 u_r_13.2.2.2.2.2.2.2.2.2)))] := hD
                  refine lv_aload_n hx hb dX8_reaches_246 rfl (lv_at hl 2 rfl) ?_
                  refine lv_iconst (v := 0) hx hb dX8_reaches_247 (by decide) ?_
                  refine va_put (D := D) (ci := 8) (v := .int 0) (ty := .int) (C := RX8) (T := TX8) (N := 31) hx hb hts iX8_reaches_X8 tyX8 tyX8_ok nmX8 hown hK hP hD hS 0 rfl rfl 12 (by decide) (hts (.fieldLink RX8 43 "TapeCalculatorModel" "chosen" "I") (List.mem_of_getElem? (i := 1) rfl)) (fun _ h9 => h9) rfl (by decide +kernel) rfl rfl (Nat.le_of_ble_eq_true rfl) dX8_reaches_248 (fun H locs hP hD hS => ?_)
                  have hP : va_P D vwCl [(m0, .inr (8, [.ref mH, .int aM, .long aC, .int mM, .long mQ, .int oV, .int pL, .int lI, .int sW, .int dP, .int sT, .long aT, .int 0, .int u_r_13.1, .ref mI, .ref mJ, .ref mS, .ref mD, .int iH, .int aE, .int mN, .long sZ, .ref mX, .int tS, .int tA, .int tW, .ref mA, .ref mB, .ref mW, .ref mL, .int lS])), (mI, .inl (cL, 1200, .inr (.inl u_r_13.2.1))), (mJ, .inl (cI, 4, .inl (k4i u_r_13.2.2.1 u_r_13.2.2.2.1 u_r_13.2.2.2.2.1 u_r_13.2.2.2.2.2.1))), (mS, .inl (cI, 4, .inl (k4i u_r_13.2.2.2.2.2.2.1 u_r_13.2.2.2.2.2.2.2.1 0 u_r_13.2.2.2.2.2.2.2.2.2)))] H := hP
                  have hD : va_D A [(m0, .inr (8, [.ref mH, .int aM, .long aC, .int mM, .long mQ, .int oV, .int pL, .int lI, .int sW, .int dP, .int sT, .long aT, .int 0, .int u_r_13.1, .ref mI, .ref mJ, .ref mS, .ref mD, .int iH, .int aE, .int mN, .long sZ, .ref mX, .int tS, .int tA, .int tW, .ref mA, .ref mB, .ref mW, .ref mL, .int lS])), (mI, .inl (cL, 1200, .inr (.inl u_r_13.2.1))), (mJ, .inl (cI, 4, .inl (k4i u_r_13.2.2.1 u_r_13.2.2.2.1 u_r_13.2.2.2.2.1 u_r_13.2.2.2.2.2.1))), (mS, .inl (cI, 4, .inl (k4i u_r_13.2.2.2.2.2.2.1 u_r_13.2.2.2.2.2.2.2.1 0 u_r_13.2.2.2.2.2.2.2.2.2)))] := hD
                  refine lv_iconst (v := 0) hx hb dX8_reaches_251 (by decide) ?_
                  refine kIret (u := (pL, lI, dP, 0, u_r_13.1, u_r_13.2.1, u_r_13.2.2.1, u_r_13.2.2.2.1, u_r_13.2.2.2.2.1, u_r_13.2.2.2.2.2.1, u_r_13.2.2.2.2.2.2.1, u_r_13.2.2.2.2.2.2.2.1, 0, u_r_13.2.2.2.2.2.2.2.2.2)) hx hb hr rfl hlocks hS dX8_reaches_252 ?_ (hP.sub [0, 1, 2, 3] rfl) (hD.sub [0, 1, 2, 3] (by decide) rfl)
                  try dsimp only
                  repeat' (with_reducible apply And.intro)
                  all_goals first | with_reducible assumption | ((try simp only [jT_, jP_, jD_, jC_, jB_, jW_, Int32.reduceToInt, Int64.reduceToInt, true_or, or_true, true_and, and_true]) <;> omega)
                · refine lv_tableIn (tgt := 132) (off := 30) hx hb dX8_reaches_102 (by decide) (by decide) (by decide) (by decide) ?_
                  refine lv_aload_n hx hb dX8_reaches_132 rfl (lv_at hl 2 rfl) ?_
                  refine lv_iload_n hx hb dX8_reaches_133 rfl (lv_at hl 1 rfl) ?_
                  refine lv_if_eq (tgt := 142) hx hb dX8_reaches_134 (by decide) (fun c_134_37 => ?_) (fun c_134_37 => ?_)
                  · have t_134_37 := c_134_37
                    try simp only [kb_eq0, kb_ne0, lg_cmp_lt, lg_cmp_le, lg_cmp_gt, lg_cmp_ge, lg_cmp_eq] at t_134_37
                    try simp only [Int32.lt_iff_toInt_lt, Int32.le_iff_toInt_le, ← Int32.toInt_inj, Int64.lt_iff_toInt_lt, Int64.le_iff_toInt_le, ← Int64.toInt_inj, Int32.toInt_toInt64, Int32.reduceToInt, Int64.reduceToInt] at t_134_37
                    refine lv_iconst (v := 1) hx hb dX8_reaches_142 (by decide) ?_
                    refine lv_iload hx hb dX8_reaches_143 (lv_at hl 0 rfl) ?_
                    refine lv_iadd hx hb dX8_reaches_145 ?_
                    refine lv_topi (fun x_39 ex_39 => ?_)
                    obtain rfl : x_39 = 3 := ex_39.trans (by decide)
                    refine va_put (D := D) (ci := 8) (v := .int 3) (ty := .int) (C := RX8) (T := TX8) (N := 31) hx hb hts iX8_reaches_X8 tyX8 tyX8_ok nmX8 hown hK hP hD hS 0 rfl rfl 12 (by decide) (hts (.fieldLink RX8 43 "TapeCalculatorModel" "chosen" "I") (List.mem_of_getElem? (i := 1) rfl)) (fun _ h9 => h9) rfl (by decide +kernel) rfl rfl (Nat.le_of_ble_eq_true rfl) dX8_reaches_146 (fun H locs hP hD hS => ?_)
                    have hP : va_P D vwCl [(m0, .inr (8, [.ref mH, .int aM, .long aC, .int mM, .long mQ, .int oV, .int pL, .int lI, .int sW, .int dP, .int sT, .long aT, .int 3, .int u_r_13.1, .ref mI, .ref mJ, .ref mS, .ref mD, .int iH, .int aE, .int mN, .long sZ, .ref mX, .int tS, .int tA, .int tW, .ref mA, .ref mB, .ref mW, .ref mL, .int lS])), (mI, .inl (cL, 1200, .inr (.inl u_r_13.2.1))), (mJ, .inl (cI, 4, .inl (k4i u_r_13.2.2.1 u_r_13.2.2.2.1 u_r_13.2.2.2.2.1 u_r_13.2.2.2.2.2.1))), (mS, .inl (cI, 4, .inl (k4i u_r_13.2.2.2.2.2.2.1 u_r_13.2.2.2.2.2.2.2.1 u_r_13.2.2.2.2.2.2.2.2.1 u_r_13.2.2.2.2.2.2.2.2.2)))] H := hP
                    have hD : va_D A [(m0, .inr (8, [.ref mH, .int aM, .long aC, .int mM, .long mQ, .int oV, .int pL, .int lI, .int sW, .int dP, .int sT, .long aT, .int 3, .int u_r_13.1, .ref mI, .ref mJ, .ref mS, .ref mD, .int iH, .int aE, .int mN, .long sZ, .ref mX, .int tS, .int tA, .int tW, .ref mA, .ref mB, .ref mW, .ref mL, .int lS])), (mI, .inl (cL, 1200, .inr (.inl u_r_13.2.1))), (mJ, .inl (cI, 4, .inl (k4i u_r_13.2.2.1 u_r_13.2.2.2.1 u_r_13.2.2.2.2.1 u_r_13.2.2.2.2.2.1))), (mS, .inl (cI, 4, .inl (k4i u_r_13.2.2.2.2.2.2.1 u_r_13.2.2.2.2.2.2.2.1 u_r_13.2.2.2.2.2.2.2.2.1 u_r_13.2.2.2.2.2.2.2.2.2)))] := hD
                    refine lv_goto (tgt := 251) hx hb dX8_reaches_149 (by decide) ?_
                    refine lv_iconst (v := 0) hx hb dX8_reaches_251 (by decide) ?_
                    refine kIret (u := (pL, lI, dP, 3, u_r_13.1, u_r_13.2.1, u_r_13.2.2.1, u_r_13.2.2.2.1, u_r_13.2.2.2.2.1, u_r_13.2.2.2.2.2.1, u_r_13.2.2.2.2.2.2.1, u_r_13.2.2.2.2.2.2.2.1, u_r_13.2.2.2.2.2.2.2.2.1, u_r_13.2.2.2.2.2.2.2.2.2)) hx hb hr rfl hlocks hS dX8_reaches_252 ?_ (hP.sub [0, 1, 2, 3] rfl) (hD.sub [0, 1, 2, 3] (by decide) rfl)
                    try dsimp only
                    repeat' (with_reducible apply And.intro)
                    all_goals first | with_reducible assumption | ((try simp only [jT_, jP_, jD_, jC_, jB_, jW_, Int32.reduceToInt, Int64.reduceToInt, true_or, or_true, true_and, and_true]) <;> omega)
                  · exact absurd (by decide) c_134_37
                · refine lv_tableIn (tgt := 152) (off := 50) hx hb dX8_reaches_102 (by decide) (by decide) (by decide) (by decide) ?_
                  refine lv_aload_n hx hb dX8_reaches_152 rfl (lv_at hl 2 rfl) ?_
                  refine lv_iconst (v := 5) hx hb dX8_reaches_153 (by decide) ?_
                  refine lv_iload hx hb dX8_reaches_154 (lv_at hl 0 rfl) ?_
                  refine lv_iadd hx hb dX8_reaches_156 ?_
                  refine lv_topi (fun x_40 ex_40 => ?_)
                  obtain rfl : x_40 = 7 := ex_40.trans (by decide)
                  refine va_put (D := D) (ci := 8) (v := .int 7) (ty := .int) (C := RX8) (T := TX8) (N := 31) hx hb hts iX8_reaches_X8 tyX8 tyX8_ok nmX8 hown hK hP hD hS 0 rfl rfl 12 (by decide) (hts (.fieldLink RX8 43 "TapeCalculatorModel" "chosen" "I") (List.mem_of_getElem? (i := 1) rfl)) (fun _ h9 => h9) rfl (by decide +kernel) rfl rfl (Nat.le_of_ble_eq_true rfl) dX8_reaches_157 (fun H locs hP hD hS => ?_)
                  have hP : va_P D vwCl [(m0, .inr (8, [.ref mH, .int aM, .long aC, .int mM, .long mQ, .int oV, .int pL, .int lI, .int sW, .int dP, .int sT, .long aT, .int 7, .int u_r_13.1, .ref mI, .ref mJ, .ref mS, .ref mD, .int iH, .int aE, .int mN, .long sZ, .ref mX, .int tS, .int tA, .int tW, .ref mA, .ref mB, .ref mW, .ref mL, .int lS])), (mI, .inl (cL, 1200, .inr (.inl u_r_13.2.1))), (mJ, .inl (cI, 4, .inl (k4i u_r_13.2.2.1 u_r_13.2.2.2.1 u_r_13.2.2.2.2.1 u_r_13.2.2.2.2.2.1))), (mS, .inl (cI, 4, .inl (k4i u_r_13.2.2.2.2.2.2.1 u_r_13.2.2.2.2.2.2.2.1 u_r_13.2.2.2.2.2.2.2.2.1 u_r_13.2.2.2.2.2.2.2.2.2)))] H := hP
                  have hD : va_D A [(m0, .inr (8, [.ref mH, .int aM, .long aC, .int mM, .long mQ, .int oV, .int pL, .int lI, .int sW, .int dP, .int sT, .long aT, .int 7, .int u_r_13.1, .ref mI, .ref mJ, .ref mS, .ref mD, .int iH, .int aE, .int mN, .long sZ, .ref mX, .int tS, .int tA, .int tW, .ref mA, .ref mB, .ref mW, .ref mL, .int lS])), (mI, .inl (cL, 1200, .inr (.inl u_r_13.2.1))), (mJ, .inl (cI, 4, .inl (k4i u_r_13.2.2.1 u_r_13.2.2.2.1 u_r_13.2.2.2.2.1 u_r_13.2.2.2.2.2.1))), (mS, .inl (cI, 4, .inl (k4i u_r_13.2.2.2.2.2.2.1 u_r_13.2.2.2.2.2.2.2.1 u_r_13.2.2.2.2.2.2.2.2.1 u_r_13.2.2.2.2.2.2.2.2.2)))] := hD
                  refine lv_goto (tgt := 251) hx hb dX8_reaches_160 (by decide) ?_
                  refine lv_iconst (v := 0) hx hb dX8_reaches_251 (by decide) ?_
                  refine kIret (u := (pL, lI, dP, 7, u_r_13.1, u_r_13.2.1, u_r_13.2.2.1, u_r_13.2.2.2.1, u_r_13.2.2.2.2.1, u_r_13.2.2.2.2.2.1, u_r_13.2.2.2.2.2.2.1, u_r_13.2.2.2.2.2.2.2.1, u_r_13.2.2.2.2.2.2.2.2.1, u_r_13.2.2.2.2.2.2.2.2.2)) hx hb hr rfl hlocks hS dX8_reaches_252 ?_ (hP.sub [0, 1, 2, 3] rfl) (hD.sub [0, 1, 2, 3] (by decide) rfl)
                  try dsimp only
                  repeat' (with_reducible apply And.intro)
                  all_goals first | with_reducible assumption | ((try simp only [jT_, jP_, jD_, jC_, jB_, jW_, Int32.reduceToInt, Int64.reduceToInt, true_or, or_true, true_and, and_true]) <;> omega)
                · refine lv_tableIn (tgt := 163) (off := 61) hx hb dX8_reaches_102 (by decide) (by decide) (by decide) (by decide) ?_
                  refine lv_iload_n hx hb dX8_reaches_163 rfl (lv_at hl 1 rfl) ?_
                  refine lv_if_ne (tgt := 181) hx hb dX8_reaches_164 (by decide) (fun c_164_40 => ?_) (fun c_164_40 => ?_)
                  · exact absurd (by decide) c_164_40
                  · have t_164_40 := c_164_40
                    try simp only [kb_eq0, kb_ne0, lg_cmp_lt, lg_cmp_le, lg_cmp_gt, lg_cmp_ge, lg_cmp_eq] at t_164_40
                    try simp only [Int32.lt_iff_toInt_lt, Int32.le_iff_toInt_le, ← Int32.toInt_inj, Int64.lt_iff_toInt_lt, Int64.le_iff_toInt_le, ← Int64.toInt_inj, Int32.toInt_toInt64, Int32.reduceToInt, Int64.reduceToInt] at t_164_40
                    refine lv_aload_n hx hb dX8_reaches_167 rfl (lv_at hl 2 rfl) ?_
                    refine va_get (D := D) (ci := 8) (v := .ref mJ) (C := RX8) (T := TX8) (N := 31) hx hb hts iX8_reaches_X8 hown hK hP 0 rfl rfl 15 (by decide) (hts (.fieldLink RX8 17 "TapeCalculatorModel" "items" "[I") (List.mem_of_getElem? (i := 5) rfl)) (fun _ h9 => h9) rfl dX8_reaches_168 ?_
                    refine lv_iload hx hb dX8_reaches_171 (lv_at hl 0 rfl) ?_
                    refine lv_aload_n hx hb dX8_reaches_173 rfl (lv_at hl 2 rfl) ?_
                    refine va_get (D := D) (ci := 8) (v := .ref mS) (C := RX8) (T := TX8) (N := 31) hx hb hts iX8_reaches_X8 hown hK hP 0 rfl rfl 16 (by decide) (hts (.fieldLink RX8 20 "TapeCalculatorModel" "stands" "[I") (List.mem_of_getElem? (i := 6) rfl)) (fun _ h9 => h9) rfl dX8_reaches_174 ?_
                    refine lv_iload hx hb dX8_reaches_177 (lv_at hl 0 rfl) ?_
                    refine va_iald hx hb hK hP 3 0 rfl rfl (vp_in_iff.mpr (by decide)) dX8_reaches_179 ?_
                    refine lv_topi (fun x_42 ex_42 => ?_)
                    obtain rfl : u_r_13.2.2.2.2.2.2.2.2.1 = x_42 := ex_42.symm
                    refine va_iast hx hb hK hP hD hS 2 0 rfl rfl (vp_in_iff.mpr (by decide)) dX8_reaches_180 (fun H locs hP hD hS => ?_)
                    rw [k4i_2] at hP hD
                    have hP : va_P D vwCl [(m0, .inr (8, [.ref mH, .int aM, .long aC, .int mM, .long mQ, .int oV, .int pL, .int lI, .int sW, .int dP, .int sT, .long aT, .int cH, .int u_r_13.1, .ref mI, .ref mJ, .ref mS, .ref mD, .int iH, .int aE, .int mN, .long sZ, .ref mX, .int tS, .int tA, .int tW, .ref mA, .ref mB, .ref mW, .ref mL, .int lS])), (mI, .inl (cL, 1200, .inr (.inl u_r_13.2.1))), (mJ, .inl (cI, 4, .inl (k4i u_r_13.2.2.1 u_r_13.2.2.2.1 (u_r_13.2.2.2.2.2.2.2.2.1) u_r_13.2.2.2.2.2.1))), (mS, .inl (cI, 4, .inl (k4i u_r_13.2.2.2.2.2.2.1 u_r_13.2.2.2.2.2.2.2.1 u_r_13.2.2.2.2.2.2.2.2.1 u_r_13.2.2.2.2.2.2.2.2.2)))] H := hP
                    have hD : va_D A [(m0, .inr (8, [.ref mH, .int aM, .long aC, .int mM, .long mQ, .int oV, .int pL, .int lI, .int sW, .int dP, .int sT, .long aT, .int cH, .int u_r_13.1, .ref mI, .ref mJ, .ref mS, .ref mD, .int iH, .int aE, .int mN, .long sZ, .ref mX, .int tS, .int tA, .int tW, .ref mA, .ref mB, .ref mW, .ref mL, .int lS])), (mI, .inl (cL, 1200, .inr (.inl u_r_13.2.1))), (mJ, .inl (cI, 4, .inl (k4i u_r_13.2.2.1 u_r_13.2.2.2.1 (u_r_13.2.2.2.2.2.2.2.2.1) u_r_13.2.2.2.2.2.1))), (mS, .inl (cI, 4, .inl (k4i u_r_13.2.2.2.2.2.2.1 u_r_13.2.2.2.2.2.2.2.1 u_r_13.2.2.2.2.2.2.2.2.1 u_r_13.2.2.2.2.2.2.2.2.2)))] := hD
                    refine lv_aload_n hx hb dX8_reaches_181 rfl (lv_at hl 2 rfl) ?_
                    refine lv_iload_n hx hb dX8_reaches_182 rfl (lv_at hl 1 rfl) ?_
                    refine lv_if_eq (tgt := 191) hx hb dX8_reaches_183 (by decide) (fun c_183_42 => ?_) (fun c_183_42 => ?_)
                    · have t_183_42 := c_183_42
                      try simp only [kb_eq0, kb_ne0, lg_cmp_lt, lg_cmp_le, lg_cmp_gt, lg_cmp_ge, lg_cmp_eq] at t_183_42
                      try simp only [Int32.lt_iff_toInt_lt, Int32.le_iff_toInt_le, ← Int32.toInt_inj, Int64.lt_iff_toInt_lt, Int64.le_iff_toInt_le, ← Int64.toInt_inj, Int32.toInt_toInt64, Int32.reduceToInt, Int64.reduceToInt] at t_183_42
                      refine lv_bipush (v := 9) hx hb dX8_reaches_191 (by decide) ?_
                      refine lv_iload hx hb dX8_reaches_193 (lv_at hl 0 rfl) ?_
                      refine lv_iadd hx hb dX8_reaches_195 ?_
                      refine lv_topi (fun x_44 ex_44 => ?_)
                      obtain rfl : x_44 = 11 := ex_44.trans (by decide)
                      refine va_put (D := D) (ci := 8) (v := .int 11) (ty := .int) (C := RX8) (T := TX8) (N := 31) hx hb hts iX8_reaches_X8 tyX8 tyX8_ok nmX8 hown hK hP hD hS 0 rfl rfl 12 (by decide) (hts (.fieldLink RX8 43 "TapeCalculatorModel" "chosen" "I") (List.mem_of_getElem? (i := 1) rfl)) (fun _ h9 => h9) rfl (by decide +kernel) rfl rfl (Nat.le_of_ble_eq_true rfl) dX8_reaches_196 (fun H locs hP hD hS => ?_)
                      have hP : va_P D vwCl [(m0, .inr (8, [.ref mH, .int aM, .long aC, .int mM, .long mQ, .int oV, .int pL, .int lI, .int sW, .int dP, .int sT, .long aT, .int 11, .int u_r_13.1, .ref mI, .ref mJ, .ref mS, .ref mD, .int iH, .int aE, .int mN, .long sZ, .ref mX, .int tS, .int tA, .int tW, .ref mA, .ref mB, .ref mW, .ref mL, .int lS])), (mI, .inl (cL, 1200, .inr (.inl u_r_13.2.1))), (mJ, .inl (cI, 4, .inl (k4i u_r_13.2.2.1 u_r_13.2.2.2.1 (u_r_13.2.2.2.2.2.2.2.2.1) u_r_13.2.2.2.2.2.1))), (mS, .inl (cI, 4, .inl (k4i u_r_13.2.2.2.2.2.2.1 u_r_13.2.2.2.2.2.2.2.1 u_r_13.2.2.2.2.2.2.2.2.1 u_r_13.2.2.2.2.2.2.2.2.2)))] H := hP
                      have hD : va_D A [(m0, .inr (8, [.ref mH, .int aM, .long aC, .int mM, .long mQ, .int oV, .int pL, .int lI, .int sW, .int dP, .int sT, .long aT, .int 11, .int u_r_13.1, .ref mI, .ref mJ, .ref mS, .ref mD, .int iH, .int aE, .int mN, .long sZ, .ref mX, .int tS, .int tA, .int tW, .ref mA, .ref mB, .ref mW, .ref mL, .int lS])), (mI, .inl (cL, 1200, .inr (.inl u_r_13.2.1))), (mJ, .inl (cI, 4, .inl (k4i u_r_13.2.2.1 u_r_13.2.2.2.1 (u_r_13.2.2.2.2.2.2.2.2.1) u_r_13.2.2.2.2.2.1))), (mS, .inl (cI, 4, .inl (k4i u_r_13.2.2.2.2.2.2.1 u_r_13.2.2.2.2.2.2.2.1 u_r_13.2.2.2.2.2.2.2.2.1 u_r_13.2.2.2.2.2.2.2.2.2)))] := hD
                      refine lv_goto (tgt := 251) hx hb dX8_reaches_199 (by decide) ?_
                      refine lv_iconst (v := 0) hx hb dX8_reaches_251 (by decide) ?_
                      refine kIret (u := (pL, lI, dP, 11, u_r_13.1, u_r_13.2.1, u_r_13.2.2.1, u_r_13.2.2.2.1, (u_r_13.2.2.2.2.2.2.2.2.1), u_r_13.2.2.2.2.2.1, u_r_13.2.2.2.2.2.2.1, u_r_13.2.2.2.2.2.2.2.1, u_r_13.2.2.2.2.2.2.2.2.1, u_r_13.2.2.2.2.2.2.2.2.2)) hx hb hr rfl hlocks hS dX8_reaches_252 ?_ (hP.sub [0, 1, 2, 3] rfl) (hD.sub [0, 1, 2, 3] (by decide) rfl)
                      try dsimp only
                      repeat' (with_reducible apply And.intro)
                      all_goals first | with_reducible assumption | ((try simp only [jT_, jP_, jD_, jC_, jB_, jW_, Int32.reduceToInt, Int64.reduceToInt, true_or, or_true, true_and, and_true]) <;> omega)
                    · exact absurd (by decide) c_183_42
                · refine lv_tableIn (tgt := 202) (off := 100) hx hb dX8_reaches_102 (by decide) (by decide) (by decide) (by decide) ?_
                  refine lv_aload_n hx hb dX8_reaches_202 rfl (lv_at hl 2 rfl) ?_
                  refine va_get (D := D) (ci := 8) (v := .ref mJ) (C := RX8) (T := TX8) (N := 31) hx hb hts iX8_reaches_X8 hown hK hP 0 rfl rfl 15 (by decide) (hts (.fieldLink RX8 17 "TapeCalculatorModel" "items" "[I") (List.mem_of_getElem? (i := 5) rfl)) (fun _ h9 => h9) rfl dX8_reaches_203 ?_
                  refine lv_iload hx hb dX8_reaches_206 (lv_at hl 0 rfl) ?_
                  refine lv_aload_n hx hb dX8_reaches_208 rfl (lv_at hl 2 rfl) ?_
                  refine va_get (D := D) (ci := 8) (v := .ref mS) (C := RX8) (T := TX8) (N := 31) hx hb hts iX8_reaches_X8 hown hK hP 0 rfl rfl 16 (by decide) (hts (.fieldLink RX8 20 "TapeCalculatorModel" "stands" "[I") (List.mem_of_getElem? (i := 6) rfl)) (fun _ h9 => h9) rfl dX8_reaches_209 ?_
                  refine lv_iload hx hb dX8_reaches_212 (lv_at hl 0 rfl) ?_
                  refine va_iald hx hb hK hP 3 0 rfl rfl (vp_in_iff.mpr (by decide)) dX8_reaches_214 ?_
                  refine lv_topi (fun x_45 ex_45 => ?_)
                  obtain rfl : u_r_13.2.2.2.2.2.2.2.2.1 = x_45 := ex_45.symm
                  refine va_iast hx hb hK hP hD hS 2 0 rfl rfl (vp_in_iff.mpr (by decide)) dX8_reaches_215 (fun H locs hP hD hS => ?_)
                  rw [k4i_2] at hP hD
                  have hP : va_P D vwCl [(m0, .inr (8, [.ref mH, .int aM, .long aC, .int mM, .long mQ, .int oV, .int pL, .int lI, .int sW, .int dP, .int sT, .long aT, .int cH, .int u_r_13.1, .ref mI, .ref mJ, .ref mS, .ref mD, .int iH, .int aE, .int mN, .long sZ, .ref mX, .int tS, .int tA, .int tW, .ref mA, .ref mB, .ref mW, .ref mL, .int lS])), (mI, .inl (cL, 1200, .inr (.inl u_r_13.2.1))), (mJ, .inl (cI, 4, .inl (k4i u_r_13.2.2.1 u_r_13.2.2.2.1 (u_r_13.2.2.2.2.2.2.2.2.1) u_r_13.2.2.2.2.2.1))), (mS, .inl (cI, 4, .inl (k4i u_r_13.2.2.2.2.2.2.1 u_r_13.2.2.2.2.2.2.2.1 u_r_13.2.2.2.2.2.2.2.2.1 u_r_13.2.2.2.2.2.2.2.2.2)))] H := hP
                  have hD : va_D A [(m0, .inr (8, [.ref mH, .int aM, .long aC, .int mM, .long mQ, .int oV, .int pL, .int lI, .int sW, .int dP, .int sT, .long aT, .int cH, .int u_r_13.1, .ref mI, .ref mJ, .ref mS, .ref mD, .int iH, .int aE, .int mN, .long sZ, .ref mX, .int tS, .int tA, .int tW, .ref mA, .ref mB, .ref mW, .ref mL, .int lS])), (mI, .inl (cL, 1200, .inr (.inl u_r_13.2.1))), (mJ, .inl (cI, 4, .inl (k4i u_r_13.2.2.1 u_r_13.2.2.2.1 (u_r_13.2.2.2.2.2.2.2.2.1) u_r_13.2.2.2.2.2.1))), (mS, .inl (cI, 4, .inl (k4i u_r_13.2.2.2.2.2.2.1 u_r_13.2.2.2.2.2.2.2.1 u_r_13.2.2.2.2.2.2.2.2.1 u_r_13.2.2.2.2.2.2.2.2.2)))] := hD
                  refine lv_aload_n hx hb dX8_reaches_216 rfl (lv_at hl 2 rfl) ?_
                  refine lv_iload hx hb dX8_reaches_217 (lv_at hl 0 rfl) ?_
                  refine lv_ldc2 (v := (-3)) hx hb hown (hts (.constantLong RX8 113 (-3)) (List.mem_of_getElem? (i := 7) rfl)) dX8_reaches_219 ?_
                  refine kCallI (wr := []) (va_runV (As := [.int 2, .long (-3)]) (rest := []) ⟨hx, hb, hml, hown, hts⟩ (q_puts l D cI cL cB cZ cT _ m0 mH mI mJ mS mD mX mA mB mW mL aM aC mM mQ oV pL lI sW dP sT aT cH (u_r_13.1) iH aE mN sZ tS tA tW lS (u_r_13.2.1) (u_r_13.2.2.1) (u_r_13.2.2.2.1) (u_r_13.2.2.2.2.2.2.2.2.1) (u_r_13.2.2.2.2.2.1) (u_r_13.2.2.2.2.2.2.1) (u_r_13.2.2.2.2.2.2.2.1) (u_r_13.2.2.2.2.2.2.2.2.1) (u_r_13.2.2.2.2.2.2.2.2.2) 2 (-3) (by first | with_reducible assumption | ((try simp only [jT_, jP_, jD_, jC_, jB_, jW_, Int32.reduceToInt, Int64.reduceToInt, true_or, or_true, true_and, and_true]) <;> omega)) (by first | with_reducible assumption | ((try simp only [jT_, jP_, jD_, jC_, jB_, jW_, Int32.reduceToInt, Int64.reduceToInt, true_or, or_true, true_and, and_true]) <;> omega)) (by first | with_reducible assumption | ((try simp only [jT_, jP_, jD_, jC_, jB_, jW_, Int32.reduceToInt, Int64.reduceToInt, true_or, or_true, true_and, and_true]) <;> omega)) (by first | with_reducible assumption | ((try simp only [jT_, jP_, jD_, jC_, jB_, jW_, Int32.reduceToInt, Int64.reduceToInt, true_or, or_true, true_and, and_true]) <;> omega)) (by decide)) (cwV 2 hts gX8_reaches_X8_puts rfl rfl rfl (by decide +kernel) ⟨Nat.le_of_ble_eq_true rfl, Nat.le_of_ble_eq_true rfl⟩) (kPreV hG hP hD [0, 1, 2, 3] rfl (by decide) 0 8 rfl rfl rfl) rfl rfl hl.1 rfl (lv_room (Nat.le_of_ble_eq_true rfl)) dX8_reaches_222 ⟨Nat.le_of_ble_eq_true rfl, Nat.le_of_ble_eq_true rfl⟩) hA hP hD hS [0, 1, 2, 3] [] rfl rfl (by decide) (by decide) (fun r_46 u_r_46 H locs wr_46 hP hD hS => ?_)
                  have hP : va_P D vwCl [(m0, .inr (8, [.ref mH, .int aM, .long aC, .int mM, .long mQ, .int oV, .int pL, .int lI, .int sW, .int dP, .int sT, .long aT, .int cH, .int u_r_13.1, .ref mI, .ref mJ, .ref mS, .ref mD, .int iH, .int aE, .int mN, .long sZ, .ref mX, .int tS, .int tA, .int tW, .ref mA, .ref mB, .ref mW, .ref mL, .int lS])), (mI, .inl (cL, 1200, .inr (.inl u_r_46.1))), (mJ, .inl (cI, 4, .inl (k4i u_r_46.2.1 u_r_46.2.2.1 u_r_46.2.2.2.1 u_r_46.2.2.2.2.1))), (mS, .inl (cI, 4, .inl (k4i u_r_46.2.2.2.2.2.1 u_r_46.2.2.2.2.2.2.1 u_r_46.2.2.2.2.2.2.2.1 u_r_46.2.2.2.2.2.2.2.2)))] H := hP
                  have hD : va_D A [(m0, .inr (8, [.ref mH, .int aM, .long aC, .int mM, .long mQ, .int oV, .int pL, .int lI, .int sW, .int dP, .int sT, .long aT, .int cH, .int u_r_13.1, .ref mI, .ref mJ, .ref mS, .ref mD, .int iH, .int aE, .int mN, .long sZ, .ref mX, .int tS, .int tA, .int tW, .ref mA, .ref mB, .ref mW, .ref mL, .int lS])), (mI, .inl (cL, 1200, .inr (.inl u_r_46.1))), (mJ, .inl (cI, 4, .inl (k4i u_r_46.2.1 u_r_46.2.2.1 u_r_46.2.2.2.1 u_r_46.2.2.2.2.1))), (mS, .inl (cI, 4, .inl (k4i u_r_46.2.2.2.2.2.1 u_r_46.2.2.2.2.2.2.1 u_r_46.2.2.2.2.2.2.2.1 u_r_46.2.2.2.2.2.2.2.2)))] := hD
                  try dsimp only at wr_46
                  try simp only [Int32.reduceToInt, Int64.reduceToInt] at wr_46
                  obtain ⟨wr_46_0, wr_46_1, wr_46_2, wr_46_3, wr_46_4⟩ := wr_46
                  refine lv_if_ne (tgt := 230) hx hb dX8_reaches_225 (by decide) (fun c_225_46 => ?_) (fun c_225_46 => ?_)
                  · have t_225_46 := c_225_46
                    try simp only [kb_eq0, kb_ne0, lg_cmp_lt, lg_cmp_le, lg_cmp_gt, lg_cmp_ge, lg_cmp_eq] at t_225_46
                    try simp only [Int32.lt_iff_toInt_lt, Int32.le_iff_toInt_le, ← Int32.toInt_inj, Int64.lt_iff_toInt_lt, Int64.le_iff_toInt_le, ← Int64.toInt_inj, Int32.toInt_toInt64, Int32.reduceToInt, Int64.reduceToInt] at t_225_46
                    refine lv_aload_n hx hb dX8_reaches_230 rfl (lv_at hl 2 rfl) ?_
                    refine lv_iconst (v := 0) hx hb dX8_reaches_231 (by decide) ?_
                    refine va_put (D := D) (ci := 8) (v := .int 0) (ty := .int) (C := RX8) (T := TX8) (N := 31) hx hb hts iX8_reaches_X8 tyX8 tyX8_ok nmX8 hown hK hP hD hS 0 rfl rfl 12 (by decide) (hts (.fieldLink RX8 43 "TapeCalculatorModel" "chosen" "I") (List.mem_of_getElem? (i := 1) rfl)) (fun _ h9 => h9) rfl (by decide +kernel) rfl rfl (Nat.le_of_ble_eq_true rfl) dX8_reaches_232 (fun H locs hP hD hS => ?_)
                    have hP : va_P D vwCl [(m0, .inr (8, [.ref mH, .int aM, .long aC, .int mM, .long mQ, .int oV, .int pL, .int lI, .int sW, .int dP, .int sT, .long aT, .int 0, .int u_r_13.1, .ref mI, .ref mJ, .ref mS, .ref mD, .int iH, .int aE, .int mN, .long sZ, .ref mX, .int tS, .int tA, .int tW, .ref mA, .ref mB, .ref mW, .ref mL, .int lS])), (mI, .inl (cL, 1200, .inr (.inl u_r_46.1))), (mJ, .inl (cI, 4, .inl (k4i u_r_46.2.1 u_r_46.2.2.1 u_r_46.2.2.2.1 u_r_46.2.2.2.2.1))), (mS, .inl (cI, 4, .inl (k4i u_r_46.2.2.2.2.2.1 u_r_46.2.2.2.2.2.2.1 u_r_46.2.2.2.2.2.2.2.1 u_r_46.2.2.2.2.2.2.2.2)))] H := hP
                    have hD : va_D A [(m0, .inr (8, [.ref mH, .int aM, .long aC, .int mM, .long mQ, .int oV, .int pL, .int lI, .int sW, .int dP, .int sT, .long aT, .int 0, .int u_r_13.1, .ref mI, .ref mJ, .ref mS, .ref mD, .int iH, .int aE, .int mN, .long sZ, .ref mX, .int tS, .int tA, .int tW, .ref mA, .ref mB, .ref mW, .ref mL, .int lS])), (mI, .inl (cL, 1200, .inr (.inl u_r_46.1))), (mJ, .inl (cI, 4, .inl (k4i u_r_46.2.1 u_r_46.2.2.1 u_r_46.2.2.2.1 u_r_46.2.2.2.2.1))), (mS, .inl (cI, 4, .inl (k4i u_r_46.2.2.2.2.2.1 u_r_46.2.2.2.2.2.2.1 u_r_46.2.2.2.2.2.2.2.1 u_r_46.2.2.2.2.2.2.2.2)))] := hD
                    refine lv_goto (tgt := 251) hx hb dX8_reaches_235 (by decide) ?_
                    refine lv_iconst (v := 0) hx hb dX8_reaches_251 (by decide) ?_
                    refine kIret (u := (pL, lI, dP, 0, u_r_13.1, u_r_46.1, u_r_46.2.1, u_r_46.2.2.1, u_r_46.2.2.2.1, u_r_46.2.2.2.2.1, u_r_46.2.2.2.2.2.1, u_r_46.2.2.2.2.2.2.1, u_r_46.2.2.2.2.2.2.2.1, u_r_46.2.2.2.2.2.2.2.2)) hx hb hr rfl hlocks hS dX8_reaches_252 ?_ (hP.sub [0, 1, 2, 3] rfl) (hD.sub [0, 1, 2, 3] (by decide) rfl)
                    try dsimp only
                    repeat' (with_reducible apply And.intro)
                    all_goals first | with_reducible assumption | ((try simp only [jT_, jP_, jD_, jC_, jB_, jW_, Int32.reduceToInt, Int64.reduceToInt, true_or, or_true, true_and, and_true]) <;> omega)
                  · have t_225_46 := c_225_46
                    try simp only [kb_eq0, kb_ne0, lg_cmp_lt, lg_cmp_le, lg_cmp_gt, lg_cmp_ge, lg_cmp_eq] at t_225_46
                    try simp only [Int32.lt_iff_toInt_lt, Int32.le_iff_toInt_le, ← Int32.toInt_inj, Int64.lt_iff_toInt_lt, Int64.le_iff_toInt_le, ← Int64.toInt_inj, Int32.toInt_toInt64, Int32.reduceToInt, Int64.reduceToInt] at t_225_46
                    refine lv_iconst (v := 5) hx hb dX8_reaches_228 (by decide) ?_
                    refine kIret (u := (pL, lI, dP, cH, u_r_13.1, u_r_46.1, u_r_46.2.1, u_r_46.2.2.1, u_r_46.2.2.2.1, u_r_46.2.2.2.2.1, u_r_46.2.2.2.2.2.1, u_r_46.2.2.2.2.2.2.1, u_r_46.2.2.2.2.2.2.2.1, u_r_46.2.2.2.2.2.2.2.2)) hx hb hr rfl hlocks hS dX8_reaches_229 ?_ (hP.sub [0, 1, 2, 3] rfl) (hD.sub [0, 1, 2, 3] (by decide) rfl)
                    try dsimp only
                    repeat' (with_reducible apply And.intro)
                    all_goals first | with_reducible assumption | ((try simp only [jT_, jP_, jD_, jC_, jB_, jW_, Int32.reduceToInt, Int64.reduceToInt, true_or, or_true, true_and, and_true]) <;> omega)
              · have hu : 0 ≤ (u_r_13.2.2.2.2.2.2.2.2.2).toInt ∧ (u_r_13.2.2.2.2.2.2.2.2.2).toInt ≤ (u_r_13.2.2.2.2.2.1).toInt ∧ (u_r_13.2.2.2.2.2.1).toInt ≤ 300 := wr_13_6
                refine lv_iload_n hx hb dX8_reaches_94 rfl (lv_at hl 3 rfl) ?_
                refine lv_sipush (v := 256) hx hb dX8_reaches_95 (by decide) ?_
                refine lv_isub hx hb dX8_reaches_98 ?_
                refine lv_topi (fun x_48 ex_48 => ?_)
                obtain rfl : x_48 = 3 := ex_48.trans (by decide)
                refine lv_istore (lv' := [(4, .int 3), (3, .int 0), (0, .ref m0), (1, .int a), (2, .int 259)]) hx hb dX8_reaches_99 hl (by decide) rfl (fun ls hl => ?_)
                refine lv_iload_n hx hb dX8_reaches_101 rfl (lv_at hl 3 rfl) ?_
                rcases ksw_24_27 a with hsw | rfl | rfl | rfl | rfl
                · refine lv_tableOut (tgt := 238) hx hb dX8_reaches_102 hsw (by decide) ?_
                  refine lv_aload_n hx hb dX8_reaches_238 rfl (lv_at hl 2 rfl) ?_
                  refine va_get (D := D) (ci := 8) (v := .ref mS) (C := RX8) (T := TX8) (N := 31) hx hb hts iX8_reaches_X8 hown hK hP 0 rfl rfl 16 (by decide) (hts (.fieldLink RX8 20 "TapeCalculatorModel" "stands" "[I") (List.mem_of_getElem? (i := 6) rfl)) (fun _ h9 => h9) rfl dX8_reaches_239 ?_
                  refine lv_iload hx hb dX8_reaches_242 (lv_at hl 0 rfl) ?_
                  refine lv_iconst (v := 0) hx hb dX8_reaches_244 (by decide) ?_
                  refine va_iast hx hb hK hP hD hS 3 0 rfl rfl (vp_in_iff.mpr (by decide)) dX8_reaches_245 (fun H locs hP hD hS => ?_)
                  rw [k4i_3] at hP hD
                  have hP : va_P D vwCl [(m0, .inr (8, [.ref mH, .int aM, .long aC, .int mM, .long mQ, .int oV, .int pL, .int lI, .int sW, .int dP, .int sT, .long aT, .int cH, .int u_r_13.1, .ref mI, .ref mJ, .ref mS, .ref mD, .int iH, .int aE, .int mN, .long sZ, .ref mX, .int tS, .int tA, .int tW, .ref mA, .ref mB, .ref mW, .ref mL, .int lS])), (mI, .inl (cL, 1200, .inr (.inl u_r_13.2.1))), (mJ, .inl (cI, 4, .inl (k4i u_r_13.2.2.1 u_r_13.2.2.2.1 u_r_13.2.2.2.2.1 u_r_13.2.2.2.2.2.1))), (mS, .inl (cI, 4, .inl (k4i u_r_13.2.2.2.2.2.2.1 u_r_13.2.2.2.2.2.2.2.1 u_r_13.2.2.2.2.2.2.2.2.1 0)))] H := hP
                  have hD : va_D A [(m0, .inr (8, [.ref mH, .int aM, .long aC, .int mM, .long mQ, .int oV, .int pL, .int lI, .int sW, .int dP, .int sT, .long aT, .int cH, .int u_r_13.1, .ref mI, .ref mJ, .ref mS, .ref mD, .int iH, .int aE, .int mN, .long sZ, .ref mX, .int tS, .int tA, .int tW, .ref mA, .ref mB, .ref mW, .ref mL, .int lS])), (mI, .inl (cL, 1200, .inr (.inl u_r_13.2.1))), (mJ, .inl (cI, 4, .inl (k4i u_r_13.2.2.1 u_r_13.2.2.2.1 u_r_13.2.2.2.2.1 u_r_13.2.2.2.2.2.1))), (mS, .inl (cI, 4, .inl (k4i u_r_13.2.2.2.2.2.2.1 u_r_13.2.2.2.2.2.2.2.1 u_r_13.2.2.2.2.2.2.2.2.1 0)))] := hD
                  refine lv_aload_n hx hb dX8_reaches_246 rfl (lv_at hl 2 rfl) ?_
                  refine lv_iconst (v := 0) hx hb dX8_reaches_247 (by decide) ?_
                  refine va_put (D := D) (ci := 8) (v := .int 0) (ty := .int) (C := RX8) (T := TX8) (N := 31) hx hb hts iX8_reaches_X8 tyX8 tyX8_ok nmX8 hown hK hP hD hS 0 rfl rfl 12 (by decide) (hts (.fieldLink RX8 43 "TapeCalculatorModel" "chosen" "I") (List.mem_of_getElem? (i := 1) rfl)) (fun _ h9 => h9) rfl (by decide +kernel) rfl rfl (Nat.le_of_ble_eq_true rfl) dX8_reaches_248 (fun H locs hP hD hS => ?_)
                  have hP : va_P D vwCl [(m0, .inr (8, [.ref mH, .int aM, .long aC, .int mM, .long mQ, .int oV, .int pL, .int lI, .int sW, .int dP, .int sT, .long aT, .int 0, .int u_r_13.1, .ref mI, .ref mJ, .ref mS, .ref mD, .int iH, .int aE, .int mN, .long sZ, .ref mX, .int tS, .int tA, .int tW, .ref mA, .ref mB, .ref mW, .ref mL, .int lS])), (mI, .inl (cL, 1200, .inr (.inl u_r_13.2.1))), (mJ, .inl (cI, 4, .inl (k4i u_r_13.2.2.1 u_r_13.2.2.2.1 u_r_13.2.2.2.2.1 u_r_13.2.2.2.2.2.1))), (mS, .inl (cI, 4, .inl (k4i u_r_13.2.2.2.2.2.2.1 u_r_13.2.2.2.2.2.2.2.1 u_r_13.2.2.2.2.2.2.2.2.1 0)))] H := hP
                  have hD : va_D A [(m0, .inr (8, [.ref mH, .int aM, .long aC, .int mM, .long mQ, .int oV, .int pL, .int lI, .int sW, .int dP, .int sT, .long aT, .int 0, .int u_r_13.1, .ref mI, .ref mJ, .ref mS, .ref mD, .int iH, .int aE, .int mN, .long sZ, .ref mX, .int tS, .int tA, .int tW, .ref mA, .ref mB, .ref mW, .ref mL, .int lS])), (mI, .inl (cL, 1200, .inr (.inl u_r_13.2.1))), (mJ, .inl (cI, 4, .inl (k4i u_r_13.2.2.1 u_r_13.2.2.2.1 u_r_13.2.2.2.2.1 u_r_13.2.2.2.2.2.1))), (mS, .inl (cI, 4, .inl (k4i u_r_13.2.2.2.2.2.2.1 u_r_13.2.2.2.2.2.2.2.1 u_r_13.2.2.2.2.2.2.2.2.1 0)))] := hD
                  refine lv_iconst (v := 0) hx hb dX8_reaches_251 (by decide) ?_
                  refine kIret (u := (pL, lI, dP, 0, u_r_13.1, u_r_13.2.1, u_r_13.2.2.1, u_r_13.2.2.2.1, u_r_13.2.2.2.2.1, u_r_13.2.2.2.2.2.1, u_r_13.2.2.2.2.2.2.1, u_r_13.2.2.2.2.2.2.2.1, u_r_13.2.2.2.2.2.2.2.2.1, 0)) hx hb hr rfl hlocks hS dX8_reaches_252 ?_ (hP.sub [0, 1, 2, 3] rfl) (hD.sub [0, 1, 2, 3] (by decide) rfl)
                  try dsimp only
                  repeat' (with_reducible apply And.intro)
                  all_goals first | with_reducible assumption | ((try simp only [jT_, jP_, jD_, jC_, jB_, jW_, Int32.reduceToInt, Int64.reduceToInt, true_or, or_true, true_and, and_true]) <;> omega)
                · refine lv_tableIn (tgt := 132) (off := 30) hx hb dX8_reaches_102 (by decide) (by decide) (by decide) (by decide) ?_
                  refine lv_aload_n hx hb dX8_reaches_132 rfl (lv_at hl 2 rfl) ?_
                  refine lv_iload_n hx hb dX8_reaches_133 rfl (lv_at hl 1 rfl) ?_
                  refine lv_if_eq (tgt := 142) hx hb dX8_reaches_134 (by decide) (fun c_134_48 => ?_) (fun c_134_48 => ?_)
                  · have t_134_48 := c_134_48
                    try simp only [kb_eq0, kb_ne0, lg_cmp_lt, lg_cmp_le, lg_cmp_gt, lg_cmp_ge, lg_cmp_eq] at t_134_48
                    try simp only [Int32.lt_iff_toInt_lt, Int32.le_iff_toInt_le, ← Int32.toInt_inj, Int64.lt_iff_toInt_lt, Int64.le_iff_toInt_le, ← Int64.toInt_inj, Int32.toInt_toInt64, Int32.reduceToInt, Int64.reduceToInt] at t_134_48
                    refine lv_iconst (v := 1) hx hb dX8_reaches_142 (by decide) ?_
                    refine lv_iload hx hb dX8_reaches_143 (lv_at hl 0 rfl) ?_
                    refine lv_iadd hx hb dX8_reaches_145 ?_
                    refine lv_topi (fun x_50 ex_50 => ?_)
                    obtain rfl : x_50 = 4 := ex_50.trans (by decide)
                    refine va_put (D := D) (ci := 8) (v := .int 4) (ty := .int) (C := RX8) (T := TX8) (N := 31) hx hb hts iX8_reaches_X8 tyX8 tyX8_ok nmX8 hown hK hP hD hS 0 rfl rfl 12 (by decide) (hts (.fieldLink RX8 43 "TapeCalculatorModel" "chosen" "I") (List.mem_of_getElem? (i := 1) rfl)) (fun _ h9 => h9) rfl (by decide +kernel) rfl rfl (Nat.le_of_ble_eq_true rfl) dX8_reaches_146 (fun H locs hP hD hS => ?_)
                    have hP : va_P D vwCl [(m0, .inr (8, [.ref mH, .int aM, .long aC, .int mM, .long mQ, .int oV, .int pL, .int lI, .int sW, .int dP, .int sT, .long aT, .int 4, .int u_r_13.1, .ref mI, .ref mJ, .ref mS, .ref mD, .int iH, .int aE, .int mN, .long sZ, .ref mX, .int tS, .int tA, .int tW, .ref mA, .ref mB, .ref mW, .ref mL, .int lS])), (mI, .inl (cL, 1200, .inr (.inl u_r_13.2.1))), (mJ, .inl (cI, 4, .inl (k4i u_r_13.2.2.1 u_r_13.2.2.2.1 u_r_13.2.2.2.2.1 u_r_13.2.2.2.2.2.1))), (mS, .inl (cI, 4, .inl (k4i u_r_13.2.2.2.2.2.2.1 u_r_13.2.2.2.2.2.2.2.1 u_r_13.2.2.2.2.2.2.2.2.1 u_r_13.2.2.2.2.2.2.2.2.2)))] H := hP
                    have hD : va_D A [(m0, .inr (8, [.ref mH, .int aM, .long aC, .int mM, .long mQ, .int oV, .int pL, .int lI, .int sW, .int dP, .int sT, .long aT, .int 4, .int u_r_13.1, .ref mI, .ref mJ, .ref mS, .ref mD, .int iH, .int aE, .int mN, .long sZ, .ref mX, .int tS, .int tA, .int tW, .ref mA, .ref mB, .ref mW, .ref mL, .int lS])), (mI, .inl (cL, 1200, .inr (.inl u_r_13.2.1))), (mJ, .inl (cI, 4, .inl (k4i u_r_13.2.2.1 u_r_13.2.2.2.1 u_r_13.2.2.2.2.1 u_r_13.2.2.2.2.2.1))), (mS, .inl (cI, 4, .inl (k4i u_r_13.2.2.2.2.2.2.1 u_r_13.2.2.2.2.2.2.2.1 u_r_13.2.2.2.2.2.2.2.2.1 u_r_13.2.2.2.2.2.2.2.2.2)))] := hD
                    refine lv_goto (tgt := 251) hx hb dX8_reaches_149 (by decide) ?_
                    refine lv_iconst (v := 0) hx hb dX8_reaches_251 (by decide) ?_
                    refine kIret (u := (pL, lI, dP, 4, u_r_13.1, u_r_13.2.1, u_r_13.2.2.1, u_r_13.2.2.2.1, u_r_13.2.2.2.2.1, u_r_13.2.2.2.2.2.1, u_r_13.2.2.2.2.2.2.1, u_r_13.2.2.2.2.2.2.2.1, u_r_13.2.2.2.2.2.2.2.2.1, u_r_13.2.2.2.2.2.2.2.2.2)) hx hb hr rfl hlocks hS dX8_reaches_252 ?_ (hP.sub [0, 1, 2, 3] rfl) (hD.sub [0, 1, 2, 3] (by decide) rfl)
                    try dsimp only
                    repeat' (with_reducible apply And.intro)
                    all_goals first | with_reducible assumption | ((try simp only [jT_, jP_, jD_, jC_, jB_, jW_, Int32.reduceToInt, Int64.reduceToInt, true_or, or_true, true_and, and_true]) <;> omega)
                  · exact absurd (by decide) c_134_48
                · refine lv_tableIn (tgt := 152) (off := 50) hx hb dX8_reaches_102 (by decide) (by decide) (by decide) (by decide) ?_
                  refine lv_aload_n hx hb dX8_reaches_152 rfl (lv_at hl 2 rfl) ?_
                  refine lv_iconst (v := 5) hx hb dX8_reaches_153 (by decide) ?_
                  refine lv_iload hx hb dX8_reaches_154 (lv_at hl 0 rfl) ?_
                  refine lv_iadd hx hb dX8_reaches_156 ?_
                  refine lv_topi (fun x_51 ex_51 => ?_)
                  obtain rfl : x_51 = 8 := ex_51.trans (by decide)
                  refine va_put (D := D) (ci := 8) (v := .int 8) (ty := .int) (C := RX8) (T := TX8) (N := 31) hx hb hts iX8_reaches_X8 tyX8 tyX8_ok nmX8 hown hK hP hD hS 0 rfl rfl 12 (by decide) (hts (.fieldLink RX8 43 "TapeCalculatorModel" "chosen" "I") (List.mem_of_getElem? (i := 1) rfl)) (fun _ h9 => h9) rfl (by decide +kernel) rfl rfl (Nat.le_of_ble_eq_true rfl) dX8_reaches_157 (fun H locs hP hD hS => ?_)
                  have hP : va_P D vwCl [(m0, .inr (8, [.ref mH, .int aM, .long aC, .int mM, .long mQ, .int oV, .int pL, .int lI, .int sW, .int dP, .int sT, .long aT, .int 8, .int u_r_13.1, .ref mI, .ref mJ, .ref mS, .ref mD, .int iH, .int aE, .int mN, .long sZ, .ref mX, .int tS, .int tA, .int tW, .ref mA, .ref mB, .ref mW, .ref mL, .int lS])), (mI, .inl (cL, 1200, .inr (.inl u_r_13.2.1))), (mJ, .inl (cI, 4, .inl (k4i u_r_13.2.2.1 u_r_13.2.2.2.1 u_r_13.2.2.2.2.1 u_r_13.2.2.2.2.2.1))), (mS, .inl (cI, 4, .inl (k4i u_r_13.2.2.2.2.2.2.1 u_r_13.2.2.2.2.2.2.2.1 u_r_13.2.2.2.2.2.2.2.2.1 u_r_13.2.2.2.2.2.2.2.2.2)))] H := hP
                  have hD : va_D A [(m0, .inr (8, [.ref mH, .int aM, .long aC, .int mM, .long mQ, .int oV, .int pL, .int lI, .int sW, .int dP, .int sT, .long aT, .int 8, .int u_r_13.1, .ref mI, .ref mJ, .ref mS, .ref mD, .int iH, .int aE, .int mN, .long sZ, .ref mX, .int tS, .int tA, .int tW, .ref mA, .ref mB, .ref mW, .ref mL, .int lS])), (mI, .inl (cL, 1200, .inr (.inl u_r_13.2.1))), (mJ, .inl (cI, 4, .inl (k4i u_r_13.2.2.1 u_r_13.2.2.2.1 u_r_13.2.2.2.2.1 u_r_13.2.2.2.2.2.1))), (mS, .inl (cI, 4, .inl (k4i u_r_13.2.2.2.2.2.2.1 u_r_13.2.2.2.2.2.2.2.1 u_r_13.2.2.2.2.2.2.2.2.1 u_r_13.2.2.2.2.2.2.2.2.2)))] := hD
                  refine lv_goto (tgt := 251) hx hb dX8_reaches_160 (by decide) ?_
                  refine lv_iconst (v := 0) hx hb dX8_reaches_251 (by decide) ?_
                  refine kIret (u := (pL, lI, dP, 8, u_r_13.1, u_r_13.2.1, u_r_13.2.2.1, u_r_13.2.2.2.1, u_r_13.2.2.2.2.1, u_r_13.2.2.2.2.2.1, u_r_13.2.2.2.2.2.2.1, u_r_13.2.2.2.2.2.2.2.1, u_r_13.2.2.2.2.2.2.2.2.1, u_r_13.2.2.2.2.2.2.2.2.2)) hx hb hr rfl hlocks hS dX8_reaches_252 ?_ (hP.sub [0, 1, 2, 3] rfl) (hD.sub [0, 1, 2, 3] (by decide) rfl)
                  try dsimp only
                  repeat' (with_reducible apply And.intro)
                  all_goals first | with_reducible assumption | ((try simp only [jT_, jP_, jD_, jC_, jB_, jW_, Int32.reduceToInt, Int64.reduceToInt, true_or, or_true, true_and, and_true]) <;> omega)
                · refine lv_tableIn (tgt := 163) (off := 61) hx hb dX8_reaches_102 (by decide) (by decide) (by decide) (by decide) ?_
                  refine lv_iload_n hx hb dX8_reaches_163 rfl (lv_at hl 1 rfl) ?_
                  refine lv_if_ne (tgt := 181) hx hb dX8_reaches_164 (by decide) (fun c_164_51 => ?_) (fun c_164_51 => ?_)
                  · exact absurd (by decide) c_164_51
                  · have t_164_51 := c_164_51
                    try simp only [kb_eq0, kb_ne0, lg_cmp_lt, lg_cmp_le, lg_cmp_gt, lg_cmp_ge, lg_cmp_eq] at t_164_51
                    try simp only [Int32.lt_iff_toInt_lt, Int32.le_iff_toInt_le, ← Int32.toInt_inj, Int64.lt_iff_toInt_lt, Int64.le_iff_toInt_le, ← Int64.toInt_inj, Int32.toInt_toInt64, Int32.reduceToInt, Int64.reduceToInt] at t_164_51
                    refine lv_aload_n hx hb dX8_reaches_167 rfl (lv_at hl 2 rfl) ?_
                    refine va_get (D := D) (ci := 8) (v := .ref mJ) (C := RX8) (T := TX8) (N := 31) hx hb hts iX8_reaches_X8 hown hK hP 0 rfl rfl 15 (by decide) (hts (.fieldLink RX8 17 "TapeCalculatorModel" "items" "[I") (List.mem_of_getElem? (i := 5) rfl)) (fun _ h9 => h9) rfl dX8_reaches_168 ?_
                    refine lv_iload hx hb dX8_reaches_171 (lv_at hl 0 rfl) ?_
                    refine lv_aload_n hx hb dX8_reaches_173 rfl (lv_at hl 2 rfl) ?_
                    refine va_get (D := D) (ci := 8) (v := .ref mS) (C := RX8) (T := TX8) (N := 31) hx hb hts iX8_reaches_X8 hown hK hP 0 rfl rfl 16 (by decide) (hts (.fieldLink RX8 20 "TapeCalculatorModel" "stands" "[I") (List.mem_of_getElem? (i := 6) rfl)) (fun _ h9 => h9) rfl dX8_reaches_174 ?_
                    refine lv_iload hx hb dX8_reaches_177 (lv_at hl 0 rfl) ?_
                    refine va_iald hx hb hK hP 3 0 rfl rfl (vp_in_iff.mpr (by decide)) dX8_reaches_179 ?_
                    refine lv_topi (fun x_53 ex_53 => ?_)
                    obtain rfl : u_r_13.2.2.2.2.2.2.2.2.2 = x_53 := ex_53.symm
                    refine va_iast hx hb hK hP hD hS 2 0 rfl rfl (vp_in_iff.mpr (by decide)) dX8_reaches_180 (fun H locs hP hD hS => ?_)
                    rw [k4i_3] at hP hD
                    have hP : va_P D vwCl [(m0, .inr (8, [.ref mH, .int aM, .long aC, .int mM, .long mQ, .int oV, .int pL, .int lI, .int sW, .int dP, .int sT, .long aT, .int cH, .int u_r_13.1, .ref mI, .ref mJ, .ref mS, .ref mD, .int iH, .int aE, .int mN, .long sZ, .ref mX, .int tS, .int tA, .int tW, .ref mA, .ref mB, .ref mW, .ref mL, .int lS])), (mI, .inl (cL, 1200, .inr (.inl u_r_13.2.1))), (mJ, .inl (cI, 4, .inl (k4i u_r_13.2.2.1 u_r_13.2.2.2.1 u_r_13.2.2.2.2.1 (u_r_13.2.2.2.2.2.2.2.2.2)))), (mS, .inl (cI, 4, .inl (k4i u_r_13.2.2.2.2.2.2.1 u_r_13.2.2.2.2.2.2.2.1 u_r_13.2.2.2.2.2.2.2.2.1 u_r_13.2.2.2.2.2.2.2.2.2)))] H := hP
                    have hD : va_D A [(m0, .inr (8, [.ref mH, .int aM, .long aC, .int mM, .long mQ, .int oV, .int pL, .int lI, .int sW, .int dP, .int sT, .long aT, .int cH, .int u_r_13.1, .ref mI, .ref mJ, .ref mS, .ref mD, .int iH, .int aE, .int mN, .long sZ, .ref mX, .int tS, .int tA, .int tW, .ref mA, .ref mB, .ref mW, .ref mL, .int lS])), (mI, .inl (cL, 1200, .inr (.inl u_r_13.2.1))), (mJ, .inl (cI, 4, .inl (k4i u_r_13.2.2.1 u_r_13.2.2.2.1 u_r_13.2.2.2.2.1 (u_r_13.2.2.2.2.2.2.2.2.2)))), (mS, .inl (cI, 4, .inl (k4i u_r_13.2.2.2.2.2.2.1 u_r_13.2.2.2.2.2.2.2.1 u_r_13.2.2.2.2.2.2.2.2.1 u_r_13.2.2.2.2.2.2.2.2.2)))] := hD
                    refine lv_aload_n hx hb dX8_reaches_181 rfl (lv_at hl 2 rfl) ?_
                    refine lv_iload_n hx hb dX8_reaches_182 rfl (lv_at hl 1 rfl) ?_
                    refine lv_if_eq (tgt := 191) hx hb dX8_reaches_183 (by decide) (fun c_183_53 => ?_) (fun c_183_53 => ?_)
                    · have t_183_53 := c_183_53
                      try simp only [kb_eq0, kb_ne0, lg_cmp_lt, lg_cmp_le, lg_cmp_gt, lg_cmp_ge, lg_cmp_eq] at t_183_53
                      try simp only [Int32.lt_iff_toInt_lt, Int32.le_iff_toInt_le, ← Int32.toInt_inj, Int64.lt_iff_toInt_lt, Int64.le_iff_toInt_le, ← Int64.toInt_inj, Int32.toInt_toInt64, Int32.reduceToInt, Int64.reduceToInt] at t_183_53
                      refine lv_bipush (v := 9) hx hb dX8_reaches_191 (by decide) ?_
                      refine lv_iload hx hb dX8_reaches_193 (lv_at hl 0 rfl) ?_
                      refine lv_iadd hx hb dX8_reaches_195 ?_
                      refine lv_topi (fun x_55 ex_55 => ?_)
                      obtain rfl : x_55 = 12 := ex_55.trans (by decide)
                      refine va_put (D := D) (ci := 8) (v := .int 12) (ty := .int) (C := RX8) (T := TX8) (N := 31) hx hb hts iX8_reaches_X8 tyX8 tyX8_ok nmX8 hown hK hP hD hS 0 rfl rfl 12 (by decide) (hts (.fieldLink RX8 43 "TapeCalculatorModel" "chosen" "I") (List.mem_of_getElem? (i := 1) rfl)) (fun _ h9 => h9) rfl (by decide +kernel) rfl rfl (Nat.le_of_ble_eq_true rfl) dX8_reaches_196 (fun H locs hP hD hS => ?_)
                      have hP : va_P D vwCl [(m0, .inr (8, [.ref mH, .int aM, .long aC, .int mM, .long mQ, .int oV, .int pL, .int lI, .int sW, .int dP, .int sT, .long aT, .int 12, .int u_r_13.1, .ref mI, .ref mJ, .ref mS, .ref mD, .int iH, .int aE, .int mN, .long sZ, .ref mX, .int tS, .int tA, .int tW, .ref mA, .ref mB, .ref mW, .ref mL, .int lS])), (mI, .inl (cL, 1200, .inr (.inl u_r_13.2.1))), (mJ, .inl (cI, 4, .inl (k4i u_r_13.2.2.1 u_r_13.2.2.2.1 u_r_13.2.2.2.2.1 (u_r_13.2.2.2.2.2.2.2.2.2)))), (mS, .inl (cI, 4, .inl (k4i u_r_13.2.2.2.2.2.2.1 u_r_13.2.2.2.2.2.2.2.1 u_r_13.2.2.2.2.2.2.2.2.1 u_r_13.2.2.2.2.2.2.2.2.2)))] H := hP
                      have hD : va_D A [(m0, .inr (8, [.ref mH, .int aM, .long aC, .int mM, .long mQ, .int oV, .int pL, .int lI, .int sW, .int dP, .int sT, .long aT, .int 12, .int u_r_13.1, .ref mI, .ref mJ, .ref mS, .ref mD, .int iH, .int aE, .int mN, .long sZ, .ref mX, .int tS, .int tA, .int tW, .ref mA, .ref mB, .ref mW, .ref mL, .int lS])), (mI, .inl (cL, 1200, .inr (.inl u_r_13.2.1))), (mJ, .inl (cI, 4, .inl (k4i u_r_13.2.2.1 u_r_13.2.2.2.1 u_r_13.2.2.2.2.1 (u_r_13.2.2.2.2.2.2.2.2.2)))), (mS, .inl (cI, 4, .inl (k4i u_r_13.2.2.2.2.2.2.1 u_r_13.2.2.2.2.2.2.2.1 u_r_13.2.2.2.2.2.2.2.2.1 u_r_13.2.2.2.2.2.2.2.2.2)))] := hD
                      refine lv_goto (tgt := 251) hx hb dX8_reaches_199 (by decide) ?_
                      refine lv_iconst (v := 0) hx hb dX8_reaches_251 (by decide) ?_
                      refine kIret (u := (pL, lI, dP, 12, u_r_13.1, u_r_13.2.1, u_r_13.2.2.1, u_r_13.2.2.2.1, u_r_13.2.2.2.2.1, (u_r_13.2.2.2.2.2.2.2.2.2), u_r_13.2.2.2.2.2.2.1, u_r_13.2.2.2.2.2.2.2.1, u_r_13.2.2.2.2.2.2.2.2.1, u_r_13.2.2.2.2.2.2.2.2.2)) hx hb hr rfl hlocks hS dX8_reaches_252 ?_ (hP.sub [0, 1, 2, 3] rfl) (hD.sub [0, 1, 2, 3] (by decide) rfl)
                      try dsimp only
                      repeat' (with_reducible apply And.intro)
                      all_goals first | with_reducible assumption | ((try simp only [jT_, jP_, jD_, jC_, jB_, jW_, Int32.reduceToInt, Int64.reduceToInt, true_or, or_true, true_and, and_true]) <;> omega)
                    · exact absurd (by decide) c_183_53
                · refine lv_tableIn (tgt := 202) (off := 100) hx hb dX8_reaches_102 (by decide) (by decide) (by decide) (by decide) ?_
                  refine lv_aload_n hx hb dX8_reaches_202 rfl (lv_at hl 2 rfl) ?_
                  refine va_get (D := D) (ci := 8) (v := .ref mJ) (C := RX8) (T := TX8) (N := 31) hx hb hts iX8_reaches_X8 hown hK hP 0 rfl rfl 15 (by decide) (hts (.fieldLink RX8 17 "TapeCalculatorModel" "items" "[I") (List.mem_of_getElem? (i := 5) rfl)) (fun _ h9 => h9) rfl dX8_reaches_203 ?_
                  refine lv_iload hx hb dX8_reaches_206 (lv_at hl 0 rfl) ?_
                  refine lv_aload_n hx hb dX8_reaches_208 rfl (lv_at hl 2 rfl) ?_
                  refine va_get (D := D) (ci := 8) (v := .ref mS) (C := RX8) (T := TX8) (N := 31) hx hb hts iX8_reaches_X8 hown hK hP 0 rfl rfl 16 (by decide) (hts (.fieldLink RX8 20 "TapeCalculatorModel" "stands" "[I") (List.mem_of_getElem? (i := 6) rfl)) (fun _ h9 => h9) rfl dX8_reaches_209 ?_
                  refine lv_iload hx hb dX8_reaches_212 (lv_at hl 0 rfl) ?_
                  refine va_iald hx hb hK hP 3 0 rfl rfl (vp_in_iff.mpr (by decide)) dX8_reaches_214 ?_
                  refine lv_topi (fun x_56 ex_56 => ?_)
                  obtain rfl : u_r_13.2.2.2.2.2.2.2.2.2 = x_56 := ex_56.symm
                  refine va_iast hx hb hK hP hD hS 2 0 rfl rfl (vp_in_iff.mpr (by decide)) dX8_reaches_215 (fun H locs hP hD hS => ?_)
                  rw [k4i_3] at hP hD
                  have hP : va_P D vwCl [(m0, .inr (8, [.ref mH, .int aM, .long aC, .int mM, .long mQ, .int oV, .int pL, .int lI, .int sW, .int dP, .int sT, .long aT, .int cH, .int u_r_13.1, .ref mI, .ref mJ, .ref mS, .ref mD, .int iH, .int aE, .int mN, .long sZ, .ref mX, .int tS, .int tA, .int tW, .ref mA, .ref mB, .ref mW, .ref mL, .int lS])), (mI, .inl (cL, 1200, .inr (.inl u_r_13.2.1))), (mJ, .inl (cI, 4, .inl (k4i u_r_13.2.2.1 u_r_13.2.2.2.1 u_r_13.2.2.2.2.1 (u_r_13.2.2.2.2.2.2.2.2.2)))), (mS, .inl (cI, 4, .inl (k4i u_r_13.2.2.2.2.2.2.1 u_r_13.2.2.2.2.2.2.2.1 u_r_13.2.2.2.2.2.2.2.2.1 u_r_13.2.2.2.2.2.2.2.2.2)))] H := hP
                  have hD : va_D A [(m0, .inr (8, [.ref mH, .int aM, .long aC, .int mM, .long mQ, .int oV, .int pL, .int lI, .int sW, .int dP, .int sT, .long aT, .int cH, .int u_r_13.1, .ref mI, .ref mJ, .ref mS, .ref mD, .int iH, .int aE, .int mN, .long sZ, .ref mX, .int tS, .int tA, .int tW, .ref mA, .ref mB, .ref mW, .ref mL, .int lS])), (mI, .inl (cL, 1200, .inr (.inl u_r_13.2.1))), (mJ, .inl (cI, 4, .inl (k4i u_r_13.2.2.1 u_r_13.2.2.2.1 u_r_13.2.2.2.2.1 (u_r_13.2.2.2.2.2.2.2.2.2)))), (mS, .inl (cI, 4, .inl (k4i u_r_13.2.2.2.2.2.2.1 u_r_13.2.2.2.2.2.2.2.1 u_r_13.2.2.2.2.2.2.2.2.1 u_r_13.2.2.2.2.2.2.2.2.2)))] := hD
                  refine lv_aload_n hx hb dX8_reaches_216 rfl (lv_at hl 2 rfl) ?_
                  refine lv_iload hx hb dX8_reaches_217 (lv_at hl 0 rfl) ?_
                  refine lv_ldc2 (v := (-3)) hx hb hown (hts (.constantLong RX8 113 (-3)) (List.mem_of_getElem? (i := 7) rfl)) dX8_reaches_219 ?_
                  refine kCallI (wr := []) (va_runV (As := [.int 3, .long (-3)]) (rest := []) ⟨hx, hb, hml, hown, hts⟩ (q_puts l D cI cL cB cZ cT _ m0 mH mI mJ mS mD mX mA mB mW mL aM aC mM mQ oV pL lI sW dP sT aT cH (u_r_13.1) iH aE mN sZ tS tA tW lS (u_r_13.2.1) (u_r_13.2.2.1) (u_r_13.2.2.2.1) (u_r_13.2.2.2.2.1) (u_r_13.2.2.2.2.2.2.2.2.2) (u_r_13.2.2.2.2.2.2.1) (u_r_13.2.2.2.2.2.2.2.1) (u_r_13.2.2.2.2.2.2.2.2.1) (u_r_13.2.2.2.2.2.2.2.2.2) 3 (-3) (by first | with_reducible assumption | ((try simp only [jT_, jP_, jD_, jC_, jB_, jW_, Int32.reduceToInt, Int64.reduceToInt, true_or, or_true, true_and, and_true]) <;> omega)) (by first | with_reducible assumption | ((try simp only [jT_, jP_, jD_, jC_, jB_, jW_, Int32.reduceToInt, Int64.reduceToInt, true_or, or_true, true_and, and_true]) <;> omega)) (by first | with_reducible assumption | ((try simp only [jT_, jP_, jD_, jC_, jB_, jW_, Int32.reduceToInt, Int64.reduceToInt, true_or, or_true, true_and, and_true]) <;> omega)) (by first | with_reducible assumption | ((try simp only [jT_, jP_, jD_, jC_, jB_, jW_, Int32.reduceToInt, Int64.reduceToInt, true_or, or_true, true_and, and_true]) <;> omega)) (by decide)) (cwV 2 hts gX8_reaches_X8_puts rfl rfl rfl (by decide +kernel) ⟨Nat.le_of_ble_eq_true rfl, Nat.le_of_ble_eq_true rfl⟩) (kPreV hG hP hD [0, 1, 2, 3] rfl (by decide) 0 8 rfl rfl rfl) rfl rfl hl.1 rfl (lv_room (Nat.le_of_ble_eq_true rfl)) dX8_reaches_222 ⟨Nat.le_of_ble_eq_true rfl, Nat.le_of_ble_eq_true rfl⟩) hA hP hD hS [0, 1, 2, 3] [] rfl rfl (by decide) (by decide) (fun r_57 u_r_57 H locs wr_57 hP hD hS => ?_)
                  have hP : va_P D vwCl [(m0, .inr (8, [.ref mH, .int aM, .long aC, .int mM, .long mQ, .int oV, .int pL, .int lI, .int sW, .int dP, .int sT, .long aT, .int cH, .int u_r_13.1, .ref mI, .ref mJ, .ref mS, .ref mD, .int iH, .int aE, .int mN, .long sZ, .ref mX, .int tS, .int tA, .int tW, .ref mA, .ref mB, .ref mW, .ref mL, .int lS])), (mI, .inl (cL, 1200, .inr (.inl u_r_57.1))), (mJ, .inl (cI, 4, .inl (k4i u_r_57.2.1 u_r_57.2.2.1 u_r_57.2.2.2.1 u_r_57.2.2.2.2.1))), (mS, .inl (cI, 4, .inl (k4i u_r_57.2.2.2.2.2.1 u_r_57.2.2.2.2.2.2.1 u_r_57.2.2.2.2.2.2.2.1 u_r_57.2.2.2.2.2.2.2.2)))] H := hP
                  have hD : va_D A [(m0, .inr (8, [.ref mH, .int aM, .long aC, .int mM, .long mQ, .int oV, .int pL, .int lI, .int sW, .int dP, .int sT, .long aT, .int cH, .int u_r_13.1, .ref mI, .ref mJ, .ref mS, .ref mD, .int iH, .int aE, .int mN, .long sZ, .ref mX, .int tS, .int tA, .int tW, .ref mA, .ref mB, .ref mW, .ref mL, .int lS])), (mI, .inl (cL, 1200, .inr (.inl u_r_57.1))), (mJ, .inl (cI, 4, .inl (k4i u_r_57.2.1 u_r_57.2.2.1 u_r_57.2.2.2.1 u_r_57.2.2.2.2.1))), (mS, .inl (cI, 4, .inl (k4i u_r_57.2.2.2.2.2.1 u_r_57.2.2.2.2.2.2.1 u_r_57.2.2.2.2.2.2.2.1 u_r_57.2.2.2.2.2.2.2.2)))] := hD
                  try dsimp only at wr_57
                  try simp only [Int32.reduceToInt, Int64.reduceToInt] at wr_57
                  obtain ⟨wr_57_0, wr_57_1, wr_57_2, wr_57_3, wr_57_4⟩ := wr_57
                  refine lv_if_ne (tgt := 230) hx hb dX8_reaches_225 (by decide) (fun c_225_57 => ?_) (fun c_225_57 => ?_)
                  · have t_225_57 := c_225_57
                    try simp only [kb_eq0, kb_ne0, lg_cmp_lt, lg_cmp_le, lg_cmp_gt, lg_cmp_ge, lg_cmp_eq] at t_225_57
                    try simp only [Int32.lt_iff_toInt_lt, Int32.le_iff_toInt_le, ← Int32.toInt_inj, Int64.lt_iff_toInt_lt, Int64.le_iff_toInt_le, ← Int64.toInt_inj, Int32.toInt_toInt64, Int32.reduceToInt, Int64.reduceToInt] at t_225_57
                    refine lv_aload_n hx hb dX8_reaches_230 rfl (lv_at hl 2 rfl) ?_
                    refine lv_iconst (v := 0) hx hb dX8_reaches_231 (by decide) ?_
                    refine va_put (D := D) (ci := 8) (v := .int 0) (ty := .int) (C := RX8) (T := TX8) (N := 31) hx hb hts iX8_reaches_X8 tyX8 tyX8_ok nmX8 hown hK hP hD hS 0 rfl rfl 12 (by decide) (hts (.fieldLink RX8 43 "TapeCalculatorModel" "chosen" "I") (List.mem_of_getElem? (i := 1) rfl)) (fun _ h9 => h9) rfl (by decide +kernel) rfl rfl (Nat.le_of_ble_eq_true rfl) dX8_reaches_232 (fun H locs hP hD hS => ?_)
                    have hP : va_P D vwCl [(m0, .inr (8, [.ref mH, .int aM, .long aC, .int mM, .long mQ, .int oV, .int pL, .int lI, .int sW, .int dP, .int sT, .long aT, .int 0, .int u_r_13.1, .ref mI, .ref mJ, .ref mS, .ref mD, .int iH, .int aE, .int mN, .long sZ, .ref mX, .int tS, .int tA, .int tW, .ref mA, .ref mB, .ref mW, .ref mL, .int lS])), (mI, .inl (cL, 1200, .inr (.inl u_r_57.1))), (mJ, .inl (cI, 4, .inl (k4i u_r_57.2.1 u_r_57.2.2.1 u_r_57.2.2.2.1 u_r_57.2.2.2.2.1))), (mS, .inl (cI, 4, .inl (k4i u_r_57.2.2.2.2.2.1 u_r_57.2.2.2.2.2.2.1 u_r_57.2.2.2.2.2.2.2.1 u_r_57.2.2.2.2.2.2.2.2)))] H := hP
                    have hD : va_D A [(m0, .inr (8, [.ref mH, .int aM, .long aC, .int mM, .long mQ, .int oV, .int pL, .int lI, .int sW, .int dP, .int sT, .long aT, .int 0, .int u_r_13.1, .ref mI, .ref mJ, .ref mS, .ref mD, .int iH, .int aE, .int mN, .long sZ, .ref mX, .int tS, .int tA, .int tW, .ref mA, .ref mB, .ref mW, .ref mL, .int lS])), (mI, .inl (cL, 1200, .inr (.inl u_r_57.1))), (mJ, .inl (cI, 4, .inl (k4i u_r_57.2.1 u_r_57.2.2.1 u_r_57.2.2.2.1 u_r_57.2.2.2.2.1))), (mS, .inl (cI, 4, .inl (k4i u_r_57.2.2.2.2.2.1 u_r_57.2.2.2.2.2.2.1 u_r_57.2.2.2.2.2.2.2.1 u_r_57.2.2.2.2.2.2.2.2)))] := hD
                    refine lv_goto (tgt := 251) hx hb dX8_reaches_235 (by decide) ?_
                    refine lv_iconst (v := 0) hx hb dX8_reaches_251 (by decide) ?_
                    refine kIret (u := (pL, lI, dP, 0, u_r_13.1, u_r_57.1, u_r_57.2.1, u_r_57.2.2.1, u_r_57.2.2.2.1, u_r_57.2.2.2.2.1, u_r_57.2.2.2.2.2.1, u_r_57.2.2.2.2.2.2.1, u_r_57.2.2.2.2.2.2.2.1, u_r_57.2.2.2.2.2.2.2.2)) hx hb hr rfl hlocks hS dX8_reaches_252 ?_ (hP.sub [0, 1, 2, 3] rfl) (hD.sub [0, 1, 2, 3] (by decide) rfl)
                    try dsimp only
                    repeat' (with_reducible apply And.intro)
                    all_goals first | with_reducible assumption | ((try simp only [jT_, jP_, jD_, jC_, jB_, jW_, Int32.reduceToInt, Int64.reduceToInt, true_or, or_true, true_and, and_true]) <;> omega)
                  · have t_225_57 := c_225_57
                    try simp only [kb_eq0, kb_ne0, lg_cmp_lt, lg_cmp_le, lg_cmp_gt, lg_cmp_ge, lg_cmp_eq] at t_225_57
                    try simp only [Int32.lt_iff_toInt_lt, Int32.le_iff_toInt_le, ← Int32.toInt_inj, Int64.lt_iff_toInt_lt, Int64.le_iff_toInt_le, ← Int64.toInt_inj, Int32.toInt_toInt64, Int32.reduceToInt, Int64.reduceToInt] at t_225_57
                    refine lv_iconst (v := 5) hx hb dX8_reaches_228 (by decide) ?_
                    refine kIret (u := (pL, lI, dP, cH, u_r_13.1, u_r_57.1, u_r_57.2.1, u_r_57.2.2.1, u_r_57.2.2.2.1, u_r_57.2.2.2.2.1, u_r_57.2.2.2.2.2.1, u_r_57.2.2.2.2.2.2.1, u_r_57.2.2.2.2.2.2.2.1, u_r_57.2.2.2.2.2.2.2.2)) hx hb hr rfl hlocks hS dX8_reaches_229 ?_ (hP.sub [0, 1, 2, 3] rfl) (hD.sub [0, 1, 2, 3] (by decide) rfl)
                    try dsimp only
                    repeat' (with_reducible apply And.intro)
                    all_goals first | with_reducible assumption | ((try simp only [jT_, jP_, jD_, jC_, jB_, jW_, Int32.reduceToInt, Int64.reduceToInt, true_or, or_true, true_and, and_true]) <;> omega)
            · have t_89_13 := c_89_13
              try simp only [kb_eq0, kb_ne0, lg_cmp_lt, lg_cmp_le, lg_cmp_gt, lg_cmp_ge, lg_cmp_eq] at t_89_13
              try simp only [Int32.lt_iff_toInt_lt, Int32.le_iff_toInt_le, ← Int32.toInt_inj, Int64.lt_iff_toInt_lt, Int64.le_iff_toInt_le, ← Int64.toInt_inj, Int32.toInt_toInt64, Int32.reduceToInt, Int64.reduceToInt] at t_89_13
              refine lv_iconst (v := 5) hx hb dX8_reaches_92 (by decide) ?_
              refine kIret (u := (pL, lI, dP, cH, u_r_13.1, u_r_13.2.1, u_r_13.2.2.1, u_r_13.2.2.2.1, u_r_13.2.2.2.2.1, u_r_13.2.2.2.2.2.1, u_r_13.2.2.2.2.2.2.1, u_r_13.2.2.2.2.2.2.2.1, u_r_13.2.2.2.2.2.2.2.2.1, u_r_13.2.2.2.2.2.2.2.2.2)) hx hb hr rfl hlocks hS dX8_reaches_93 ?_ (hP.sub [0, 1, 2, 3] rfl) (hD.sub [0, 1, 2, 3] (by decide) rfl)
              try dsimp only
              repeat' (with_reducible apply And.intro)
              all_goals first | with_reducible assumption | ((try simp only [jT_, jP_, jD_, jC_, jB_, jW_, Int32.reduceToInt, Int64.reduceToInt, true_or, or_true, true_and, and_true]) <;> omega)
          · have t_80_11 := c_80_11
            try simp only [kb_eq0, kb_ne0, lg_cmp_lt, lg_cmp_le, lg_cmp_gt, lg_cmp_ge, lg_cmp_eq] at t_80_11
            try simp only [Int32.lt_iff_toInt_lt, Int32.le_iff_toInt_le, ← Int32.toInt_inj, Int64.lt_iff_toInt_lt, Int64.le_iff_toInt_le, ← Int64.toInt_inj, Int32.toInt_toInt64, Int32.reduceToInt, Int64.reduceToInt] at t_80_11
            refine lv_iconst (v := 4) hx hb dX8_reaches_83 (by decide) ?_
            refine kIret (u := (pL, lI, dP, cH, iW, fI, j0, j1, j2, j3, s0, s1, s2, s3)) hx hb hr rfl hlocks hS dX8_reaches_84 ?_ (hP.sub [0, 1, 2, 3] rfl) (hD.sub [0, 1, 2, 3] (by decide) rfl)
            try dsimp only
            repeat' (with_reducible apply And.intro)
            all_goals first | with_reducible assumption | ((try simp only [jT_, jP_, jD_, jC_, jB_, jW_, Int32.reduceToInt, Int64.reduceToInt, true_or, or_true, true_and, and_true]) <;> omega)
      refine lv_iload_n hx hb dX8_reaches_40 rfl (lv_at hl 2 rfl) ?_
      refine lv_sipush (v := 128) hx hb dX8_reaches_41 (by decide) ?_
      refine lv_icmp_ne (tgt := 63) hx hb dX8_reaches_44 (by decide) (fun c_44_58 => ?_) (fun c_44_58 => ?_)
      · have t_44_58 := c_44_58
        try simp only [kb_eq0, kb_ne0, lg_cmp_lt, lg_cmp_le, lg_cmp_gt, lg_cmp_ge, lg_cmp_eq] at t_44_58
        try simp only [Int32.lt_iff_toInt_lt, Int32.le_iff_toInt_le, ← Int32.toInt_inj, Int64.lt_iff_toInt_lt, Int64.le_iff_toInt_le, ← Int64.toInt_inj, Int32.toInt_toInt64, Int32.reduceToInt, Int64.reduceToInt] at t_44_58
        refine lv_iconst (v := 0) hx hb dX8_reaches_63 (by decide) ?_
        exact J64 0 (by first | with_reducible assumption | ((try simp only [jT_, jP_, jD_, jC_, jB_, jW_, Int32.reduceToInt, Int64.reduceToInt, true_or, or_true, true_and, and_true]) <;> omega)) _ _ (hP.sub [0, 1, 2, 3] rfl) (hD.sub [0, 1, 2, 3] (by decide) rfl) hS ls (lv_sub hl [0, 1, 2] rfl)
      · have t_44_58 := c_44_58
        try simp only [kb_eq0, kb_ne0, lg_cmp_lt, lg_cmp_le, lg_cmp_gt, lg_cmp_ge, lg_cmp_eq] at t_44_58
        try simp only [Int32.lt_iff_toInt_lt, Int32.le_iff_toInt_le, ← Int32.toInt_inj, Int64.lt_iff_toInt_lt, Int64.le_iff_toInt_le, ← Int64.toInt_inj, Int32.toInt_toInt64, Int32.reduceToInt, Int64.reduceToInt] at t_44_58
        refine lv_iload_n hx hb dX8_reaches_47 rfl (lv_at hl 1 rfl) ?_
        refine lv_bipush (v := 24) hx hb dX8_reaches_48 (by decide) ?_
        refine lv_icmp_eq (tgt := 59) hx hb dX8_reaches_50 (by decide) (fun c_50_59 => ?_) (fun c_50_59 => ?_)
        · have t_50_59 := c_50_59
          try simp only [kb_eq0, kb_ne0, lg_cmp_lt, lg_cmp_le, lg_cmp_gt, lg_cmp_ge, lg_cmp_eq] at t_50_59
          try simp only [Int32.lt_iff_toInt_lt, Int32.le_iff_toInt_le, ← Int32.toInt_inj, Int64.lt_iff_toInt_lt, Int64.le_iff_toInt_le, ← Int64.toInt_inj, Int32.toInt_toInt64, Int32.reduceToInt, Int64.reduceToInt] at t_50_59
          refine lv_iconst (v := 1) hx hb dX8_reaches_59 (by decide) ?_
          refine lv_goto (tgt := 64) hx hb dX8_reaches_60 (by decide) ?_
          exact J64 1 (by first | with_reducible assumption | ((try simp only [jT_, jP_, jD_, jC_, jB_, jW_, Int32.reduceToInt, Int64.reduceToInt, true_or, or_true, true_and, and_true]) <;> omega)) _ _ (hP.sub [0, 1, 2, 3] rfl) (hD.sub [0, 1, 2, 3] (by decide) rfl) hS ls (lv_sub hl [0, 1, 2] rfl)
        · have t_50_59 := c_50_59
          try simp only [kb_eq0, kb_ne0, lg_cmp_lt, lg_cmp_le, lg_cmp_gt, lg_cmp_ge, lg_cmp_eq] at t_50_59
          try simp only [Int32.lt_iff_toInt_lt, Int32.le_iff_toInt_le, ← Int32.toInt_inj, Int64.lt_iff_toInt_lt, Int64.le_iff_toInt_le, ← Int64.toInt_inj, Int32.toInt_toInt64, Int32.reduceToInt, Int64.reduceToInt] at t_50_59
          refine lv_iload_n hx hb dX8_reaches_53 rfl (lv_at hl 1 rfl) ?_
          refine lv_bipush (v := 26) hx hb dX8_reaches_54 (by decide) ?_
          refine lv_icmp_ne (tgt := 63) hx hb dX8_reaches_56 (by decide) (fun c_56_60 => ?_) (fun c_56_60 => ?_)
          · have t_56_60 := c_56_60
            try simp only [kb_eq0, kb_ne0, lg_cmp_lt, lg_cmp_le, lg_cmp_gt, lg_cmp_ge, lg_cmp_eq] at t_56_60
            try simp only [Int32.lt_iff_toInt_lt, Int32.le_iff_toInt_le, ← Int32.toInt_inj, Int64.lt_iff_toInt_lt, Int64.le_iff_toInt_le, ← Int64.toInt_inj, Int32.toInt_toInt64, Int32.reduceToInt, Int64.reduceToInt] at t_56_60
            refine lv_iconst (v := 0) hx hb dX8_reaches_63 (by decide) ?_
            exact J64 0 (by first | with_reducible assumption | ((try simp only [jT_, jP_, jD_, jC_, jB_, jW_, Int32.reduceToInt, Int64.reduceToInt, true_or, or_true, true_and, and_true]) <;> omega)) _ _ (hP.sub [0, 1, 2, 3] rfl) (hD.sub [0, 1, 2, 3] (by decide) rfl) hS ls (lv_sub hl [0, 1, 2] rfl)
          · have t_56_60 := c_56_60
            try simp only [kb_eq0, kb_ne0, lg_cmp_lt, lg_cmp_le, lg_cmp_gt, lg_cmp_ge, lg_cmp_eq] at t_56_60
            try simp only [Int32.lt_iff_toInt_lt, Int32.le_iff_toInt_le, ← Int32.toInt_inj, Int64.lt_iff_toInt_lt, Int64.le_iff_toInt_le, ← Int64.toInt_inj, Int32.toInt_toInt64, Int32.reduceToInt, Int64.reduceToInt] at t_56_60
            refine lv_iconst (v := 1) hx hb dX8_reaches_59 (by decide) ?_
            refine lv_goto (tgt := 64) hx hb dX8_reaches_60 (by decide) ?_
            exact J64 1 (by first | with_reducible assumption | ((try simp only [jT_, jP_, jD_, jC_, jB_, jW_, Int32.reduceToInt, Int64.reduceToInt, true_or, or_true, true_and, and_true]) <;> omega)) _ _ (hP.sub [0, 1, 2, 3] rfl) (hD.sub [0, 1, 2, 3] (by decide) rfl) hS ls (lv_sub hl [0, 1, 2] rfl)
    · have t_15_1 := c_15_1
      try simp only [kb_eq0, kb_ne0, lg_cmp_lt, lg_cmp_le, lg_cmp_gt, lg_cmp_ge, lg_cmp_eq] at t_15_1
      try simp only [Int32.lt_iff_toInt_lt, Int32.le_iff_toInt_le, ← Int32.toInt_inj, Int64.lt_iff_toInt_lt, Int64.le_iff_toInt_le, ← Int64.toInt_inj, Int32.toInt_toInt64, Int32.reduceToInt, Int64.reduceToInt] at t_15_1
      refine lv_aload_n hx hb dX8_reaches_18 rfl (lv_at hl 0 rfl) ?_
      refine va_get (D := D) (ci := 8) (v := .int cH) (C := RX8) (T := TX8) (N := 31) hx hb hts iX8_reaches_X8 hown hK hP 0 rfl rfl 12 (by decide) (hts (.fieldLink RX8 43 "TapeCalculatorModel" "chosen" "I") (List.mem_of_getElem? (i := 1) rfl)) (fun _ h9 => h9) rfl dX8_reaches_19 ?_
      refine lv_bipush (v := 13) hx hb dX8_reaches_22 (by decide) ?_
      refine lv_icmp_ge (tgt := 29) hx hb dX8_reaches_24 (by decide) (fun c_24_61 => ?_) (fun c_24_61 => ?_)
      · have t_24_61 := c_24_61
        try simp only [kb_eq0, kb_ne0, lg_cmp_lt, lg_cmp_le, lg_cmp_gt, lg_cmp_ge, lg_cmp_eq] at t_24_61
        try simp only [Int32.lt_iff_toInt_lt, Int32.le_iff_toInt_le, ← Int32.toInt_inj, Int64.lt_iff_toInt_lt, Int64.le_iff_toInt_le, ← Int64.toInt_inj, Int32.toInt_toInt64, Int32.reduceToInt, Int64.reduceToInt] at t_24_61
        have hk8 := k_and (x := b) (m := 255) 8 (by decide) (by decide)
        refine lv_aload_n hx hb dX8_reaches_29 rfl (lv_at hl 0 rfl) ?_
        refine lv_iload_n hx hb dX8_reaches_30 rfl (lv_at hl 2 rfl) ?_
        refine lv_sipush (v := 255) hx hb dX8_reaches_31 (by decide) ?_
        refine lv_iand hx hb dX8_reaches_34 ?_
        refine lv_topi (fun x_63 ex_63 => ?_)
        refine va_put (D := D) (ci := 8) (v := .int x_63) (ty := .int) (C := RX8) (T := TX8) (N := 31) hx hb hts iX8_reaches_X8 tyX8 tyX8_ok nmX8 hown hK hP hD hS 0 rfl rfl 9 (by decide) (hts (.fieldLink RX8 84 "TapeCalculatorModel" "drumPlace" "I") (List.mem_of_getElem? (i := 2) rfl)) (fun _ h9 => h9) rfl (by decide +kernel) rfl rfl (Nat.le_of_ble_eq_true rfl) dX8_reaches_35 (fun H locs hP hD hS => ?_)
        have hP : va_P D vwCl [(m0, .inr (8, [.ref mH, .int aM, .long aC, .int mM, .long mQ, .int oV, .int pL, .int lI, .int sW, .int x_63, .int sT, .long aT, .int cH, .int iW, .ref mI, .ref mJ, .ref mS, .ref mD, .int iH, .int aE, .int mN, .long sZ, .ref mX, .int tS, .int tA, .int tW, .ref mA, .ref mB, .ref mW, .ref mL, .int lS])), (mI, .inl (cL, 1200, .inr (.inl fI))), (mJ, .inl (cI, 4, .inl (k4i j0 j1 j2 j3))), (mS, .inl (cI, 4, .inl (k4i s0 s1 s2 s3)))] H := hP
        have hD : va_D A [(m0, .inr (8, [.ref mH, .int aM, .long aC, .int mM, .long mQ, .int oV, .int pL, .int lI, .int sW, .int x_63, .int sT, .long aT, .int cH, .int iW, .ref mI, .ref mJ, .ref mS, .ref mD, .int iH, .int aE, .int mN, .long sZ, .ref mX, .int tS, .int tA, .int tW, .ref mA, .ref mB, .ref mW, .ref mL, .int lS])), (mI, .inl (cL, 1200, .inr (.inl fI))), (mJ, .inl (cI, 4, .inl (k4i j0 j1 j2 j3))), (mS, .inl (cI, 4, .inl (k4i s0 s1 s2 s3)))] := hD
        refine lv_iconst (v := 0) hx hb dX8_reaches_38 (by decide) ?_
        refine kIret (u := (pL, lI, x_63, cH, iW, fI, j0, j1, j2, j3, s0, s1, s2, s3)) hx hb hr rfl hlocks hS dX8_reaches_39 ?_ (hP.sub [0, 1, 2, 3] rfl) (hD.sub [0, 1, 2, 3] (by decide) rfl)
        try rw [← ex_63] at hk8
        try dsimp only
        repeat' (with_reducible apply And.intro)
        all_goals first | with_reducible assumption | ((try simp only [jT_, jP_, jD_, jC_, jB_, jW_, Int32.reduceToInt, Int64.reduceToInt, true_or, or_true, true_and, and_true]) <;> omega)
      · have t_24_61 := c_24_61
        try simp only [kb_eq0, kb_ne0, lg_cmp_lt, lg_cmp_le, lg_cmp_gt, lg_cmp_ge, lg_cmp_eq] at t_24_61
        try simp only [Int32.lt_iff_toInt_lt, Int32.le_iff_toInt_le, ← Int32.toInt_inj, Int64.lt_iff_toInt_lt, Int64.le_iff_toInt_le, ← Int64.toInt_inj, Int32.toInt_toInt64, Int32.reduceToInt, Int64.reduceToInt] at t_24_61
        refine lv_iconst (v := 4) hx hb dX8_reaches_27 (by decide) ?_
        refine kIret (u := (pL, lI, dP, cH, iW, fI, j0, j1, j2, j3, s0, s1, s2, s3)) hx hb hr rfl hlocks hS dX8_reaches_28 ?_ (hP.sub [0, 1, 2, 3] rfl) (hD.sub [0, 1, 2, 3] (by decide) rfl)
        try dsimp only
        repeat' (with_reducible apply And.intro)
        all_goals first | with_reducible assumption | ((try simp only [jT_, jP_, jD_, jC_, jB_, jW_, Int32.reduceToInt, Int64.reduceToInt, true_or, or_true, true_and, and_true]) <;> omega)
  · have t_3_0 := c_3_0
    try simp only [kb_eq0, kb_ne0, lg_cmp_lt, lg_cmp_le, lg_cmp_gt, lg_cmp_ge, lg_cmp_eq] at t_3_0
    try simp only [Int32.lt_iff_toInt_lt, Int32.le_iff_toInt_le, ← Int32.toInt_inj, Int64.lt_iff_toInt_lt, Int64.le_iff_toInt_le, ← Int64.toInt_inj, Int32.toInt_toInt64, Int32.reduceToInt, Int64.reduceToInt] at t_3_0
    refine lv_aload_n hx hb dX8_reaches_6 rfl (lv_at hl 0 rfl) ?_
    refine lv_iload_n hx hb dX8_reaches_7 rfl (lv_at hl 2 rfl) ?_
    refine kCallI (wr := [(mI, .inl (cL, 1200, .inr (.inl fI))), (mJ, .inl (cI, 4, .inl (k4i j0 j1 j2 j3))), (mS, .inl (cI, 4, .inl (k4i s0 s1 s2 s3)))]) (va_runV (As := [.int b]) (rest := []) ⟨hx, hb, hml, hown, hts⟩ (q_senses l D cI cL cB cZ cT _ m0 mH mI mJ mS mD mX mA mB mW mL aM aC mM mQ oV pL lI sW dP sT aT cH iW iH aE mN sZ tS tA tW lS b (by first | with_reducible assumption | ((try simp only [jT_, jP_, jD_, jC_, jB_, jW_, Int32.reduceToInt, Int64.reduceToInt, true_or, or_true, true_and, and_true]) <;> omega))) (cwV 1 hts gX8_reaches_X8_senses rfl rfl rfl (by decide +kernel) ⟨Nat.le_of_ble_eq_true rfl, Nat.le_of_ble_eq_true rfl⟩) (kPreV hG hP hD [0] rfl (by decide) 0 8 rfl rfl rfl) rfl rfl hl.1 rfl (lv_room (Nat.le_of_ble_eq_true rfl)) dX8_reaches_8 ⟨Nat.le_of_ble_eq_true rfl, Nat.le_of_ble_eq_true rfl⟩) hA hP hD hS [0] [1, 2, 3] rfl rfl (by decide) (by decide) (fun r_64 u_r_64 H locs wr_64 hP hD hS => ?_)
    have hP : va_P D vwCl [(mI, .inl (cL, 1200, .inr (.inl fI))), (mJ, .inl (cI, 4, .inl (k4i j0 j1 j2 j3))), (mS, .inl (cI, 4, .inl (k4i s0 s1 s2 s3))), (m0, .inr (8, [.ref mH, .int aM, .long aC, .int mM, .long mQ, .int oV, .int u_r_64.1, .int u_r_64.2, .int sW, .int dP, .int sT, .long aT, .int cH, .int iW, .ref mI, .ref mJ, .ref mS, .ref mD, .int iH, .int aE, .int mN, .long sZ, .ref mX, .int tS, .int tA, .int tW, .ref mA, .ref mB, .ref mW, .ref mL, .int lS]))] H := hP
    have hD : va_D A [(mI, .inl (cL, 1200, .inr (.inl fI))), (mJ, .inl (cI, 4, .inl (k4i j0 j1 j2 j3))), (mS, .inl (cI, 4, .inl (k4i s0 s1 s2 s3))), (m0, .inr (8, [.ref mH, .int aM, .long aC, .int mM, .long mQ, .int oV, .int u_r_64.1, .int u_r_64.2, .int sW, .int dP, .int sT, .long aT, .int cH, .int iW, .ref mI, .ref mJ, .ref mS, .ref mD, .int iH, .int aE, .int mN, .long sZ, .ref mX, .int tS, .int tA, .int tW, .ref mA, .ref mB, .ref mW, .ref mL, .int lS]))] := hD
    try dsimp only at wr_64
    try simp only [Int32.reduceToInt, Int64.reduceToInt] at wr_64
    obtain ⟨wr_64_0, wr_64_1⟩ := wr_64
    refine kIret (u := (u_r_64.1, u_r_64.2, dP, cH, iW, fI, j0, j1, j2, j3, s0, s1, s2, s3)) hx hb hr rfl hlocks hS dX8_reaches_11 ?_ (hP.sub [3, 0, 1, 2] rfl) (hD.sub [3, 0, 1, 2] (by decide) rfl)
    try dsimp only
    repeat' (with_reducible apply And.intro)
    all_goals first | with_reducible assumption | ((try simp only [jT_, jP_, jD_, jC_, jB_, jW_, Int32.reduceToInt, Int64.reduceToInt, true_or, or_true, true_and, and_true]) <;> omega)
