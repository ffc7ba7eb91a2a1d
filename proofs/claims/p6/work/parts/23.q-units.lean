set_option maxRecDepth 100000 in
theorem iX8_senses_X8 : ∀ w ∈ wsX80, w ∈ wsX8_senses := fun w h => (goodIn_r (big := wsX8_senses) wsX80 [14, 15, 16, 17, 18, 19, 20, 21, 22, 23, 24, 25, 26, 27, 28, 29, 30, 31, 32, 33, 34, 35, 36, 37, 38, 39, 40, 41, 42, 43, 44] rfl (by decide +kernel) w h).1
set_option maxRecDepth 100000 in
set_option maxHeartbeats 4000000 in
theorem q_senses (l : Launch) (D : va_G) (cI cL cB cZ cT : ClassId) (sz : Nat) (m0 mH mI mJ mS mD mX mA mB mW mL : Nat) (aM : Int32) (aC : Int64) (mM : Int32) (mQ : Int64) (oV pL lI sW dP sT : Int32) (aT : Int64) (cH iW iH aE mN : Int32) (sZ : Int64) (tS tA tW lS : Int32) (a : Int32) (hpl : 0 ≤ pL.toInt ∧ pL.toInt ≤ 511) : kM (S := (Int32 × Int32)) l yX8_senses wsX8_senses ({ frames := 1, cells := 0, slots := 0, locals := 25 }) D (kT cI cL cB cZ cT) [.ref m0, .int a] [(m0, .inr (8, [.ref mH, .int aM, .long aC, .int mM, .long mQ, .int oV, .int pL, .int lI, .int sW, .int dP, .int sT, .long aT, .int cH, .int iW, .ref mI, .ref mJ, .ref mS, .ref mD, .int iH, .int aE, .int mN, .long sZ, .ref mX, .int tS, .int tA, .int tW, .ref mA, .ref mB, .ref mW, .ref mL, .int lS]))] sz eI (fun r u => (0 ≤ r.toInt ∧ r.toInt ≤ 6) ∧ 0 ≤ ((u.1)).toInt ∧ ((u.1)).toInt ≤ 511) (fun u => [(m0, .inr (8, [.ref mH, .int aM, .long aC, .int mM, .long mQ, .int oV, .int u.1, .int u.2, .int sW, .int dP, .int sT, .long aT, .int cH, .int iW, .ref mI, .ref mJ, .ref mS, .ref mD, .int iH, .int aE, .int mN, .long sZ, .ref mX, .int tS, .int tA, .int tW, .ref mA, .ref mB, .ref mW, .ref mL, .int lS]))]) 0 0 := by
  refine kStart (cc := cX8_senses) (maxL := 2) (ret := (some .int)) (own := RX8) (by decide) rfl rfl (Nat.le_of_ble_eq_true rfl) ?_
  intro p e s m args below meth c A ls hx hb hr hml hown hts hlocks hnm hsz hA hG hP hD hS hl
  have hK := hG.1
  have hl : lv_has ls 2 [(0, .ref m0), (1, .int a)] := hl
  refine lv_iload_n hx hb dX8_senses_0 rfl (lv_at hl 1 rfl) ?_
  refine lv_i2l hx hb dX8_senses_1 rfl ?_
  refine lv_ldc2 (v := 64) hx hb hown (hts (.constantLong RX8 221 (64)) (List.mem_of_getElem? (i := 1) rfl)) dX8_senses_2 ?_
  refine lv_ldc2 (v := 76) hx hb hown (hts (.constantLong RX8 223 (76)) (List.mem_of_getElem? (i := 2) rfl)) dX8_senses_5 ?_
  refine kCallI (wr := [(m0, .inr (8, [.ref mH, .int aM, .long aC, .int mM, .long mQ, .int oV, .int pL, .int lI, .int sW, .int dP, .int sT, .long aT, .int cH, .int iW, .ref mI, .ref mJ, .ref mS, .ref mD, .int iH, .int aE, .int mN, .long sZ, .ref mX, .int tS, .int tA, .int tW, .ref mA, .ref mB, .ref mW, .ref mL, .int lS]))]) (va_runS (As := [.long a.toInt64, .long 64, .long 76]) (rest := []) ⟨hx, hb, hml, hown, hts⟩ (q_in l D cI cL cB cZ cT _ (a.toInt64) 64 76) (va_cwS 3 hts gX8_senses_X8_in rfl rfl rfl (by decide +kernel) ⟨Nat.le_of_ble_eq_true rfl, Nat.le_of_ble_eq_true rfl⟩) (kPreS hG hP hD [] rfl (by decide)) rfl rfl hl.1 rfl (lv_room (Nat.le_of_ble_eq_true rfl)) dX8_senses_8 ⟨Nat.le_of_ble_eq_true rfl, Nat.le_of_ble_eq_true rfl⟩) hA hP hD hS [] [0] rfl rfl (by decide) (by decide) (fun r_1 u_r_1 H locs wr_1 hP hD hS => ?_)
  have hP : va_P D vwCl [(m0, .inr (8, [.ref mH, .int aM, .long aC, .int mM, .long mQ, .int oV, .int pL, .int lI, .int sW, .int dP, .int sT, .long aT, .int cH, .int iW, .ref mI, .ref mJ, .ref mS, .ref mD, .int iH, .int aE, .int mN, .long sZ, .ref mX, .int tS, .int tA, .int tW, .ref mA, .ref mB, .ref mW, .ref mL, .int lS]))] H := hP
  have hD : va_D A [(m0, .inr (8, [.ref mH, .int aM, .long aC, .int mM, .long mQ, .int oV, .int pL, .int lI, .int sW, .int dP, .int sT, .long aT, .int cH, .int iW, .ref mI, .ref mJ, .ref mS, .ref mD, .int iH, .int aE, .int mN, .long sZ, .ref mX, .int tS, .int tA, .int tW, .ref mA, .ref mB, .ref mW, .ref mL, .int lS]))] := hD
  try dsimp only at wr_1
  subst wr_1
  refine lv_if_ne (tgt := 16) hx hb dX8_senses_11 (by decide) (fun c_11_1 => ?_) (fun c_11_1 => ?_)
  · have t_11_1 := c_11_1
    try simp only [kb_eq0, kb_ne0, lg_cmp_lt, lg_cmp_le, lg_cmp_gt, lg_cmp_ge, lg_cmp_eq] at t_11_1
    try simp only [Int32.lt_iff_toInt_lt, Int32.le_iff_toInt_le, ← Int32.toInt_inj, Int64.lt_iff_toInt_lt, Int64.le_iff_toInt_le, ← Int64.toInt_inj, Int32.toInt_toInt64, Int32.reduceToInt, Int64.reduceToInt] at t_11_1
    refine lv_iload_n hx hb dX8_senses_16 rfl (lv_at hl 1 rfl) ?_
    refine lv_bipush (v := 64) hx hb dX8_senses_17 (by decide) ?_
    refine lv_icmp_ne (tgt := 30) hx hb dX8_senses_19 (by decide) (fun c_19_2 => ?_) (fun c_19_2 => ?_)
    · have t_19_2 := c_19_2
      try simp only [kb_eq0, kb_ne0, lg_cmp_lt, lg_cmp_le, lg_cmp_gt, lg_cmp_ge, lg_cmp_eq] at t_19_2
      try simp only [Int32.lt_iff_toInt_lt, Int32.le_iff_toInt_le, ← Int32.toInt_inj, Int64.lt_iff_toInt_lt, Int64.le_iff_toInt_le, ← Int64.toInt_inj, Int32.toInt_toInt64, Int32.reduceToInt, Int64.reduceToInt] at t_19_2
      refine lv_iload_n hx hb dX8_senses_30 rfl (lv_at hl 1 rfl) ?_
      refine lv_bipush (v := 69) hx hb dX8_senses_31 (by decide) ?_
      refine lv_icmp_ge (tgt := 54) hx hb dX8_senses_33 (by decide) (fun c_33_3 => ?_) (fun c_33_3 => ?_)
      · have t_33_3 := c_33_3
        try simp only [kb_eq0, kb_ne0, lg_cmp_lt, lg_cmp_le, lg_cmp_gt, lg_cmp_ge, lg_cmp_eq] at t_33_3
        try simp only [Int32.lt_iff_toInt_lt, Int32.le_iff_toInt_le, ← Int32.toInt_inj, Int64.lt_iff_toInt_lt, Int64.le_iff_toInt_le, ← Int64.toInt_inj, Int32.toInt_toInt64, Int32.reduceToInt, Int64.reduceToInt] at t_33_3
        refine lv_iload_n hx hb dX8_senses_54 rfl (lv_at hl 1 rfl) ?_
        refine lv_bipush (v := 73) hx hb dX8_senses_55 (by decide) ?_
        refine lv_icmp_ge (tgt := 78) hx hb dX8_senses_57 (by decide) (fun c_57_4 => ?_) (fun c_57_4 => ?_)
        · have t_57_4 := c_57_4
          try simp only [kb_eq0, kb_ne0, lg_cmp_lt, lg_cmp_le, lg_cmp_gt, lg_cmp_ge, lg_cmp_eq] at t_57_4
          try simp only [Int32.lt_iff_toInt_lt, Int32.le_iff_toInt_le, ← Int32.toInt_inj, Int64.lt_iff_toInt_lt, Int64.le_iff_toInt_le, ← Int64.toInt_inj, Int32.toInt_toInt64, Int32.reduceToInt, Int64.reduceToInt] at t_57_4
          refine lv_aload_n hx hb dX8_senses_78 rfl (lv_at hl 0 rfl) ?_
          refine lv_aload_n hx hb dX8_senses_79 rfl (lv_at hl 0 rfl) ?_
          refine va_get (D := D) (ci := 8) (v := .int lI) (C := RX8) (T := TX8) (N := 31) hx hb hts iX8_senses_X8 hown hK hP 0 rfl rfl 7 (by decide) (hts (.fieldLink RX8 81 "TapeCalculatorModel" "lights" "I") (List.mem_of_getElem? (i := 3) rfl)) (fun _ h9 => h9) rfl dX8_senses_80 ?_
          refine lv_iload_n hx hb dX8_senses_83 rfl (lv_at hl 1 rfl) ?_
          refine lv_bipush (v := 73) hx hb dX8_senses_84 (by decide) ?_
          refine lv_isub hx hb dX8_senses_86 ?_
          refine lv_ishr hx hb dX8_senses_87 ?_
          refine lv_iconst (v := 1) hx hb dX8_senses_88 (by decide) ?_
          refine lv_iand hx hb dX8_senses_89 ?_
          refine kCallVd (wr := []) (va_runV (As := [.int ((lI >>> ((a - 73) &&& 31)) &&& 1)]) (rest := []) ⟨hx, hb, hml, hown, hts⟩ (q_go l D cI cL cB cZ cT _ m0 mH mI mJ mS mD mX mA mB mW mL aM aC mM mQ oV pL lI sW dP sT aT cH iW iH aE mN sZ tS tA tW lS ((lI >>> ((a - 73) &&& 31)) &&& 1)) (cwV 1 hts gX8_senses_X8_go rfl rfl rfl (by decide +kernel) ⟨Nat.le_of_ble_eq_true rfl, Nat.le_of_ble_eq_true rfl⟩) (kPreV hG hP hD [0] rfl (by decide) 0 8 rfl rfl rfl) rfl rfl hl.1 rfl (lv_room (Nat.le_of_ble_eq_true rfl)) dX8_senses_90 ⟨Nat.le_of_ble_eq_true rfl, Nat.le_of_ble_eq_true rfl⟩) hA hP hD hS [0] [] rfl rfl (by decide) (by decide) (fun _ u_r_6 H locs wr_6 hP hD hS => ?_)
          have hP : va_P D vwCl [(m0, .inr (8, [.ref mH, .int aM, .long aC, .int mM, .long mQ, .int oV, .int u_r_6, .int lI, .int sW, .int dP, .int sT, .long aT, .int cH, .int iW, .ref mI, .ref mJ, .ref mS, .ref mD, .int iH, .int aE, .int mN, .long sZ, .ref mX, .int tS, .int tA, .int tW, .ref mA, .ref mB, .ref mW, .ref mL, .int lS]))] H := hP
          have hD : va_D A [(m0, .inr (8, [.ref mH, .int aM, .long aC, .int mM, .long mQ, .int oV, .int u_r_6, .int lI, .int sW, .int dP, .int sT, .long aT, .int cH, .int iW, .ref mI, .ref mJ, .ref mS, .ref mD, .int iH, .int aE, .int mN, .long sZ, .ref mX, .int tS, .int tA, .int tW, .ref mA, .ref mB, .ref mW, .ref mL, .int lS]))] := hD
          try dsimp only at wr_6
          try simp only [Int32.reduceToInt, Int64.reduceToInt] at wr_6
          refine lv_aload_n hx hb dX8_senses_93 rfl (lv_at hl 0 rfl) ?_
          refine lv_dup hx hb dX8_senses_94 rfl ?_
          refine va_get (D := D) (ci := 8) (v := .int lI) (C := RX8) (T := TX8) (N := 31) hx hb hts iX8_senses_X8 hown hK hP 0 rfl rfl 7 (by decide) (hts (.fieldLink RX8 81 "TapeCalculatorModel" "lights" "I") (List.mem_of_getElem? (i := 3) rfl)) (fun _ h9 => h9) rfl dX8_senses_95 ?_
          refine lv_iconst (v := 1) hx hb dX8_senses_98 (by decide) ?_
          refine lv_iload_n hx hb dX8_senses_99 rfl (lv_at hl 1 rfl) ?_
          refine lv_bipush (v := 73) hx hb dX8_senses_100 (by decide) ?_
          refine lv_isub hx hb dX8_senses_102 ?_
          refine lv_ishl hx hb dX8_senses_103 ?_
          refine lv_iconst (v := (-1)) hx hb dX8_senses_104 (by decide) ?_
          refine lv_ixor hx hb dX8_senses_105 ?_
          refine lv_iand hx hb dX8_senses_106 ?_
          refine lv_topi (fun x_7 ex_7 => ?_)
          refine va_put (D := D) (ci := 8) (v := .int x_7) (ty := .int) (C := RX8) (T := TX8) (N := 31) hx hb hts iX8_senses_X8 tyX8 tyX8_ok nmX8 hown hK hP hD hS 0 rfl rfl 7 (by decide) (hts (.fieldLink RX8 81 "TapeCalculatorModel" "lights" "I") (List.mem_of_getElem? (i := 3) rfl)) (fun _ h9 => h9) rfl (by decide +kernel) rfl rfl (Nat.le_of_ble_eq_true rfl) dX8_senses_107 (fun H locs hP hD hS => ?_)
          have hP : va_P D vwCl [(m0, .inr (8, [.ref mH, .int aM, .long aC, .int mM, .long mQ, .int oV, .int u_r_6, .int x_7, .int sW, .int dP, .int sT, .long aT, .int cH, .int iW, .ref mI, .ref mJ, .ref mS, .ref mD, .int iH, .int aE, .int mN, .long sZ, .ref mX, .int tS, .int tA, .int tW, .ref mA, .ref mB, .ref mW, .ref mL, .int lS]))] H := hP
          have hD : va_D A [(m0, .inr (8, [.ref mH, .int aM, .long aC, .int mM, .long mQ, .int oV, .int u_r_6, .int x_7, .int sW, .int dP, .int sT, .long aT, .int cH, .int iW, .ref mI, .ref mJ, .ref mS, .ref mD, .int iH, .int aE, .int mN, .long sZ, .ref mX, .int tS, .int tA, .int tW, .ref mA, .ref mB, .ref mW, .ref mL, .int lS]))] := hD
          refine lv_iconst (v := 0) hx hb dX8_senses_110 (by decide) ?_
          refine kIret (u := (u_r_6, x_7)) hx hb hr rfl hlocks hS dX8_senses_111 ?_ (hP.sub [0] rfl) (hD.sub [0] (by decide) rfl)
          try dsimp only
          try simp only [Int32.reduceToInt, Int64.reduceToInt, true_or, or_true, true_and, and_true]
          repeat' apply And.intro
          all_goals first | assumption | omega
        · have t_57_4 := c_57_4
          try simp only [kb_eq0, kb_ne0, lg_cmp_lt, lg_cmp_le, lg_cmp_gt, lg_cmp_ge, lg_cmp_eq] at t_57_4
          try simp only [Int32.lt_iff_toInt_lt, Int32.le_iff_toInt_le, ← Int32.toInt_inj, Int64.lt_iff_toInt_lt, Int64.le_iff_toInt_le, ← Int64.toInt_inj, Int32.toInt_toInt64, Int32.reduceToInt, Int64.reduceToInt] at t_57_4
          refine lv_aload_n hx hb dX8_senses_60 rfl (lv_at hl 0 rfl) ?_
          refine lv_aload_n hx hb dX8_senses_61 rfl (lv_at hl 0 rfl) ?_
          refine va_get (D := D) (ci := 8) (v := .int sW) (C := RX8) (T := TX8) (N := 31) hx hb hts iX8_senses_X8 hown hK hP 0 rfl rfl 8 (by decide) (hts (.fieldLink RX8 98 "TapeCalculatorModel" "switches" "I") (List.mem_of_getElem? (i := 4) rfl)) (fun _ h9 => h9) rfl dX8_senses_62 ?_
          refine lv_iload_n hx hb dX8_senses_65 rfl (lv_at hl 1 rfl) ?_
          refine lv_bipush (v := 69) hx hb dX8_senses_66 (by decide) ?_
          refine lv_isub hx hb dX8_senses_68 ?_
          refine lv_ishr hx hb dX8_senses_69 ?_
          refine lv_iconst (v := 1) hx hb dX8_senses_70 (by decide) ?_
          refine lv_iand hx hb dX8_senses_71 ?_
          refine kCallVd (wr := []) (va_runV (As := [.int ((sW >>> ((a - 69) &&& 31)) &&& 1)]) (rest := []) ⟨hx, hb, hml, hown, hts⟩ (q_go l D cI cL cB cZ cT _ m0 mH mI mJ mS mD mX mA mB mW mL aM aC mM mQ oV pL lI sW dP sT aT cH iW iH aE mN sZ tS tA tW lS ((sW >>> ((a - 69) &&& 31)) &&& 1)) (cwV 1 hts gX8_senses_X8_go rfl rfl rfl (by decide +kernel) ⟨Nat.le_of_ble_eq_true rfl, Nat.le_of_ble_eq_true rfl⟩) (kPreV hG hP hD [0] rfl (by decide) 0 8 rfl rfl rfl) rfl rfl hl.1 rfl (lv_room (Nat.le_of_ble_eq_true rfl)) dX8_senses_72 ⟨Nat.le_of_ble_eq_true rfl, Nat.le_of_ble_eq_true rfl⟩) hA hP hD hS [0] [] rfl rfl (by decide) (by decide) (fun _ u_r_8 H locs wr_8 hP hD hS => ?_)
          have hP : va_P D vwCl [(m0, .inr (8, [.ref mH, .int aM, .long aC, .int mM, .long mQ, .int oV, .int u_r_8, .int lI, .int sW, .int dP, .int sT, .long aT, .int cH, .int iW, .ref mI, .ref mJ, .ref mS, .ref mD, .int iH, .int aE, .int mN, .long sZ, .ref mX, .int tS, .int tA, .int tW, .ref mA, .ref mB, .ref mW, .ref mL, .int lS]))] H := hP
          have hD : va_D A [(m0, .inr (8, [.ref mH, .int aM, .long aC, .int mM, .long mQ, .int oV, .int u_r_8, .int lI, .int sW, .int dP, .int sT, .long aT, .int cH, .int iW, .ref mI, .ref mJ, .ref mS, .ref mD, .int iH, .int aE, .int mN, .long sZ, .ref mX, .int tS, .int tA, .int tW, .ref mA, .ref mB, .ref mW, .ref mL, .int lS]))] := hD
          try dsimp only at wr_8
          try simp only [Int32.reduceToInt, Int64.reduceToInt] at wr_8
          refine lv_goto (tgt := 110) hx hb dX8_senses_75 (by decide) ?_
          refine lv_iconst (v := 0) hx hb dX8_senses_110 (by decide) ?_
          refine kIret (u := (u_r_8, lI)) hx hb hr rfl hlocks hS dX8_senses_111 ?_ (hP.sub [0] rfl) (hD.sub [0] (by decide) rfl)
          try dsimp only
          try simp only [Int32.reduceToInt, Int64.reduceToInt, true_or, or_true, true_and, and_true]
          repeat' apply And.intro
          all_goals first | assumption | omega
      · have t_33_3 := c_33_3
        try simp only [kb_eq0, kb_ne0, lg_cmp_lt, lg_cmp_le, lg_cmp_gt, lg_cmp_ge, lg_cmp_eq] at t_33_3
        try simp only [Int32.lt_iff_toInt_lt, Int32.le_iff_toInt_le, ← Int32.toInt_inj, Int64.lt_iff_toInt_lt, Int64.le_iff_toInt_le, ← Int64.toInt_inj, Int32.toInt_toInt64, Int32.reduceToInt, Int64.reduceToInt] at t_33_3
        refine lv_aload_n hx hb dX8_senses_36 rfl (lv_at hl 0 rfl) ?_
        refine lv_dup hx hb dX8_senses_37 rfl ?_
        refine va_get (D := D) (ci := 8) (v := .int lI) (C := RX8) (T := TX8) (N := 31) hx hb hts iX8_senses_X8 hown hK hP 0 rfl rfl 7 (by decide) (hts (.fieldLink RX8 81 "TapeCalculatorModel" "lights" "I") (List.mem_of_getElem? (i := 3) rfl)) (fun _ h9 => h9) rfl dX8_senses_38 ?_
        refine lv_iconst (v := 1) hx hb dX8_senses_41 (by decide) ?_
        refine lv_iload_n hx hb dX8_senses_42 rfl (lv_at hl 1 rfl) ?_
        refine lv_bipush (v := 65) hx hb dX8_senses_43 (by decide) ?_
        refine lv_isub hx hb dX8_senses_45 ?_
        refine lv_ishl hx hb dX8_senses_46 ?_
        refine lv_ior hx hb dX8_senses_47 ?_
        refine lv_topi (fun x_9 ex_9 => ?_)
        refine va_put (D := D) (ci := 8) (v := .int x_9) (ty := .int) (C := RX8) (T := TX8) (N := 31) hx hb hts iX8_senses_X8 tyX8 tyX8_ok nmX8 hown hK hP hD hS 0 rfl rfl 7 (by decide) (hts (.fieldLink RX8 81 "TapeCalculatorModel" "lights" "I") (List.mem_of_getElem? (i := 3) rfl)) (fun _ h9 => h9) rfl (by decide +kernel) rfl rfl (Nat.le_of_ble_eq_true rfl) dX8_senses_48 (fun H locs hP hD hS => ?_)
        have hP : va_P D vwCl [(m0, .inr (8, [.ref mH, .int aM, .long aC, .int mM, .long mQ, .int oV, .int pL, .int x_9, .int sW, .int dP, .int sT, .long aT, .int cH, .int iW, .ref mI, .ref mJ, .ref mS, .ref mD, .int iH, .int aE, .int mN, .long sZ, .ref mX, .int tS, .int tA, .int tW, .ref mA, .ref mB, .ref mW, .ref mL, .int lS]))] H := hP
        have hD : va_D A [(m0, .inr (8, [.ref mH, .int aM, .long aC, .int mM, .long mQ, .int oV, .int pL, .int x_9, .int sW, .int dP, .int sT, .long aT, .int cH, .int iW, .ref mI, .ref mJ, .ref mS, .ref mD, .int iH, .int aE, .int mN, .long sZ, .ref mX, .int tS, .int tA, .int tW, .ref mA, .ref mB, .ref mW, .ref mL, .int lS]))] := hD
        refine lv_goto (tgt := 110) hx hb dX8_senses_51 (by decide) ?_
        refine lv_iconst (v := 0) hx hb dX8_senses_110 (by decide) ?_
        refine kIret (u := (pL, x_9)) hx hb hr rfl hlocks hS dX8_senses_111 ?_ (hP.sub [0] rfl) (hD.sub [0] (by decide) rfl)
        try dsimp only
        try simp only [Int32.reduceToInt, Int64.reduceToInt, true_or, or_true, true_and, and_true]
        repeat' apply And.intro
        all_goals first | assumption | omega
    · have t_19_2 := c_19_2
      try simp only [kb_eq0, kb_ne0, lg_cmp_lt, lg_cmp_le, lg_cmp_gt, lg_cmp_ge, lg_cmp_eq] at t_19_2
      try simp only [Int32.lt_iff_toInt_lt, Int32.le_iff_toInt_le, ← Int32.toInt_inj, Int64.lt_iff_toInt_lt, Int64.le_iff_toInt_le, ← Int64.toInt_inj, Int32.toInt_toInt64, Int32.reduceToInt, Int64.reduceToInt] at t_19_2
      refine lv_aload_n hx hb dX8_senses_22 rfl (lv_at hl 0 rfl) ?_
      refine lv_iconst (v := 0) hx hb dX8_senses_23 (by decide) ?_
      refine va_put (D := D) (ci := 8) (v := .int 0) (ty := .int) (C := RX8) (T := TX8) (N := 31) hx hb hts iX8_senses_X8 tyX8 tyX8_ok nmX8 hown hK hP hD hS 0 rfl rfl 7 (by decide) (hts (.fieldLink RX8 81 "TapeCalculatorModel" "lights" "I") (List.mem_of_getElem? (i := 3) rfl)) (fun _ h9 => h9) rfl (by decide +kernel) rfl rfl (Nat.le_of_ble_eq_true rfl) dX8_senses_24 (fun H locs hP hD hS => ?_)
      have hP : va_P D vwCl [(m0, .inr (8, [.ref mH, .int aM, .long aC, .int mM, .long mQ, .int oV, .int pL, .int 0, .int sW, .int dP, .int sT, .long aT, .int cH, .int iW, .ref mI, .ref mJ, .ref mS, .ref mD, .int iH, .int aE, .int mN, .long sZ, .ref mX, .int tS, .int tA, .int tW, .ref mA, .ref mB, .ref mW, .ref mL, .int lS]))] H := hP
      have hD : va_D A [(m0, .inr (8, [.ref mH, .int aM, .long aC, .int mM, .long mQ, .int oV, .int pL, .int 0, .int sW, .int dP, .int sT, .long aT, .int cH, .int iW, .ref mI, .ref mJ, .ref mS, .ref mD, .int iH, .int aE, .int mN, .long sZ, .ref mX, .int tS, .int tA, .int tW, .ref mA, .ref mB, .ref mW, .ref mL, .int lS]))] := hD
      refine lv_goto (tgt := 110) hx hb dX8_senses_27 (by decide) ?_
      refine lv_iconst (v := 0) hx hb dX8_senses_110 (by decide) ?_
      refine kIret (u := (pL, 0)) hx hb hr rfl hlocks hS dX8_senses_111 ?_ (hP.sub [0] rfl) (hD.sub [0] (by decide) rfl)
      try dsimp only
      try simp only [Int32.reduceToInt, Int64.reduceToInt, true_or, or_true, true_and, and_true]
      repeat' apply And.intro
      all_goals first | assumption | omega
  · have t_11_1 := c_11_1
    try simp only [kb_eq0, kb_ne0, lg_cmp_lt, lg_cmp_le, lg_cmp_gt, lg_cmp_ge, lg_cmp_eq] at t_11_1
    try simp only [Int32.lt_iff_toInt_lt, Int32.le_iff_toInt_le, ← Int32.toInt_inj, Int64.lt_iff_toInt_lt, Int64.le_iff_toInt_le, ← Int64.toInt_inj, Int32.toInt_toInt64, Int32.reduceToInt, Int64.reduceToInt] at t_11_1
    refine lv_iconst (v := 4) hx hb dX8_senses_14 (by decide) ?_
    refine kIret (u := (pL, lI)) hx hb hr rfl hlocks hS dX8_senses_15 ?_ (hP.sub [0] rfl) (hD.sub [0] (by decide) rfl)
    try dsimp only
    try simp only [Int32.reduceToInt, Int64.reduceToInt, true_or, or_true, true_and, and_true]
    repeat' apply And.intro
    all_goals first | assumption | omega
set_option maxRecDepth 100000 in
theorem iX8_reaches_X8 : ∀ w ∈ wsX80, w ∈ wsX8_reaches := fun w h => (goodIn_r (big := wsX8_reaches) wsX80 [36, 37, 38, 39, 40, 41, 42, 43, 44, 45, 46, 47, 48, 49, 50, 51, 52, 53, 54, 55, 56, 57, 58, 59, 60, 61, 62, 63, 64, 65, 66] rfl (by decide +kernel) w h).1
set_option maxRecDepth 100000 in
set_option maxHeartbeats 4000000 in
theorem q_reaches (l : Launch) (D : va_G) (cI cL cB cZ cT : ClassId) (sz : Nat) (m0 mH mI mJ mS mD mX mA mB mW mL : Nat) (aM : Int32) (aC : Int64) (mM : Int32) (mQ : Int64) (oV pL lI sW dP sT : Int32) (aT : Int64) (cH iW iH aE mN : Int32) (sZ : Int64) (tS tA tW lS : Int32) (fI : Nat → Int64) (j0 j1 j2 j3 : Int32) (s0 s1 s2 s3 : Int32) (a b : Int32) (hpl : 0 ≤ pL.toInt ∧ pL.toInt ≤ 511) (hdp : 0 ≤ dP.toInt ∧ dP.toInt ≤ 255) (hch : 0 ≤ cH.toInt ∧ cH.toInt ≤ 14) (hiw : iW.toInt = 0 ∨ (iW.toInt = 1 ∧ 9 ≤ cH.toInt ∧ cH.toInt ≤ 12)) (hti : 0 ≤ s0.toInt ∧ s0.toInt ≤ j0.toInt ∧ j0.toInt ≤ 300 ∧ 0 ≤ s1.toInt ∧ s1.toInt ≤ j1.toInt ∧ j1.toInt ≤ 300 ∧ 0 ≤ s2.toInt ∧ s2.toInt ≤ j2.toInt ∧ j2.toInt ≤ 300 ∧ 0 ≤ s3.toInt ∧ s3.toInt ≤ j3.toInt ∧ j3.toInt ≤ 300) : kM (S := (Int32 × Int32 × Int32 × Int32 × Int32 × (Nat → Int64) × Int32 × Int32 × Int32 × Int32 × Int32 × Int32 × Int32 × Int32)) l yX8_reaches wsX8_reaches ({ frames := 2, cells := 0, slots := 0, locals := 46 }) D (kT cI cL cB cZ cT) [.ref m0, .int a, .int b] [(m0, .inr (8, [.ref mH, .int aM, .long aC, .int mM, .long mQ, .int oV, .int pL, .int lI, .int sW, .int dP, .int sT, .long aT, .int cH, .int iW, .ref mI, .ref mJ, .ref mS, .ref mD, .int iH, .int aE, .int mN, .long sZ, .ref mX, .int tS, .int tA, .int tW, .ref mA, .ref mB, .ref mW, .ref mL, .int lS])), (mI, .inl (cL, 1200, .inr (.inl fI))), (mJ, .inl (cI, 4, .inl (k4i j0 j1 j2 j3))), (mS, .inl (cI, 4, .inl (k4i s0 s1 s2 s3)))] sz eI (fun r u => (0 ≤ r.toInt ∧ r.toInt ≤ 6) ∧ (0 ≤ ((u.1)).toInt ∧ ((u.1)).toInt ≤ 511) ∧ (0 ≤ ((u.2.2.1)).toInt ∧ ((u.2.2.1)).toInt ≤ 255) ∧ (0 ≤ ((u.2.2.2.1)).toInt ∧ ((u.2.2.2.1)).toInt ≤ 14) ∧ (((u.2.2.2.2.1)).toInt = 0 ∨ (((u.2.2.2.2.1)).toInt = 1 ∧ 9 ≤ ((u.2.2.2.1)).toInt ∧ ((u.2.2.2.1)).toInt ≤ 12)) ∧ 0 ≤ ((u.2.2.2.2.2.2.2.2.2.2.1)).toInt ∧ ((u.2.2.2.2.2.2.2.2.2.2.1)).toInt ≤ ((u.2.2.2.2.2.2.1)).toInt ∧ ((u.2.2.2.2.2.2.1)).toInt ≤ 300 ∧ 0 ≤ ((u.2.2.2.2.2.2.2.2.2.2.2.1)).toInt ∧ ((u.2.2.2.2.2.2.2.2.2.2.2.1)).toInt ≤ ((u.2.2.2.2.2.2.2.1)).toInt ∧ ((u.2.2.2.2.2.2.2.1)).toInt ≤ 300 ∧ 0 ≤ ((u.2.2.2.2.2.2.2.2.2.2.2.2.1)).toInt ∧ ((u.2.2.2.2.2.2.2.2.2.2.2.2.1)).toInt ≤ ((u.2.2.2.2.2.2.2.2.1)).toInt ∧ ((u.2.2.2.2.2.2.2.2.1)).toInt ≤ 300 ∧ 0 ≤ ((u.2.2.2.2.2.2.2.2.2.2.2.2.2)).toInt ∧ ((u.2.2.2.2.2.2.2.2.2.2.2.2.2)).toInt ≤ ((u.2.2.2.2.2.2.2.2.2.1)).toInt ∧ ((u.2.2.2.2.2.2.2.2.2.1)).toInt ≤ 300) (fun u => [(m0, .inr (8, [.ref mH, .int aM, .long aC, .int mM, .long mQ, .int oV, .int u.1, .int u.2.1, .int sW, .int u.2.2.1, .int sT, .long aT, .int u.2.2.2.1, .int u.2.2.2.2.1, .ref mI, .ref mJ, .ref mS, .ref mD, .int iH, .int aE, .int mN, .long sZ, .ref mX, .int tS, .int tA, .int tW, .ref mA, .ref mB, .ref mW, .ref mL, .int lS])), (mI, .inl (cL, 1200, .inr (.inl u.2.2.2.2.2.1))), (mJ, .inl (cI, 4, .inl (k4i u.2.2.2.2.2.2.1 u.2.2.2.2.2.2.2.1 u.2.2.2.2.2.2.2.2.1 u.2.2.2.2.2.2.2.2.2.1))), (mS, .inl (cI, 4, .inl (k4i u.2.2.2.2.2.2.2.2.2.2.1 u.2.2.2.2.2.2.2.2.2.2.2.1 u.2.2.2.2.2.2.2.2.2.2.2.2.1 u.2.2.2.2.2.2.2.2.2.2.2.2.2)))]) 0 0 := by
  refine kStart (cc := cX8_reaches) (maxL := 5) (ret := (some .int)) (own := RX8) (by decide) rfl rfl (Nat.le_of_ble_eq_true rfl) ?_
  intro p e s m args below meth c A ls hx hb hr hml hown hts hlocks hnm hsz hA hG hP hD hS hl
  have hK := hG.1
  have hl : lv_has ls 5 [(0, .ref m0), (1, .int a), (2, .int b)] := hl
  refine lv_iload_n hx hb dX8_reaches_0 rfl (lv_at hl 1 rfl) ?_
  refine lv_bipush (v := 30) hx hb dX8_reaches_1 (by decide) ?_
  refine lv_icmp_ne (tgt := 12) hx hb dX8_reaches_3 (by decide) (fun c_3_0 => ?_) (fun c_3_0 => ?_)
  · have t_3_0 := c_3_0
    try simp only [kb_eq0, kb_ne0, lg_cmp_lt, lg_cmp_le, lg_cmp_gt, lg_cmp_ge, lg_cmp_eq] at t_3_0
    try simp only [Int32.lt_iff_toInt_lt, Int32.le_iff_toInt_le, ← Int32.toInt_inj, Int64.lt_iff_toInt_lt, Int64.le_iff_toInt_le, ← Int64.toInt_inj, Int32.toInt_toInt64, Int32.reduceToInt, Int64.reduceToInt] at t_3_0
    refine lv_iload_n hx hb dX8_reaches_12 rfl (lv_at hl 1 rfl) ?_
    refine lv_bipush (v := 29) hx hb dX8_reaches_13 (by decide) ?_
    refine lv_icmp_ne (tgt := 40) hx hb dX8_reaches_15 (by decide) (fun c_15_1 => ?_) (fun c_15_1 => ?_)
    · have t_15_1 := c_15_1
      try simp only [kb_eq0, kb_ne0, lg_cmp_lt, lg_cmp_le, lg_cmp_gt, lg_cmp_ge, lg_cmp_eq] at t_15_1
      try simp only [Int32.lt_iff_toInt_lt, Int32.le_iff_toInt_le, ← Int32.toInt_inj, Int64.lt_iff_toInt_lt, Int64.le_iff_toInt_le, ← Int64.toInt_inj, Int32.toInt_toInt64, Int32.reduceToInt, Int64.reduceToInt] at t_15_1
      refine lv_iload_n hx hb dX8_reaches_40 rfl (lv_at hl 2 rfl) ?_
      refine lv_sipush (v := 128) hx hb dX8_reaches_41 (by decide) ?_
      refine lv_icmp_ne (tgt := 63) hx hb dX8_reaches_44 (by decide) (fun c_44_2 => ?_) (fun c_44_2 => ?_)
      · have t_44_2 := c_44_2
        try simp only [kb_eq0, kb_ne0, lg_cmp_lt, lg_cmp_le, lg_cmp_gt, lg_cmp_ge, lg_cmp_eq] at t_44_2
        try simp only [Int32.lt_iff_toInt_lt, Int32.le_iff_toInt_le, ← Int32.toInt_inj, Int64.lt_iff_toInt_lt, Int64.le_iff_toInt_le, ← Int64.toInt_inj, Int32.toInt_toInt64, Int32.reduceToInt, Int64.reduceToInt] at t_44_2
        refine lv_iconst (v := 0) hx hb dX8_reaches_63 (by decide) ?_
        refine lv_istore_n (lv' := [(3, .int 0), (0, .ref m0), (1, .int a), (2, .int b)]) hx hb dX8_reaches_64 rfl hl (by decide) rfl (fun ls hl => ?_)
        refine lv_iload_n hx hb dX8_reaches_65 rfl (lv_at hl 0 rfl) ?_
        refine lv_if_ne (tgt := 85) hx hb dX8_reaches_66 (by decide) (fun c_66_3 => ?_) (fun c_66_3 => ?_)
        · exact absurd (by decide) c_66_3
        · have t_66_3 := c_66_3
          try simp only [kb_eq0, kb_ne0, lg_cmp_lt, lg_cmp_le, lg_cmp_gt, lg_cmp_ge, lg_cmp_eq] at t_66_3
          try simp only [Int32.lt_iff_toInt_lt, Int32.le_iff_toInt_le, ← Int32.toInt_inj, Int64.lt_iff_toInt_lt, Int64.le_iff_toInt_le, ← Int64.toInt_inj, Int32.toInt_toInt64, Int32.reduceToInt, Int64.reduceToInt] at t_66_3
          refine lv_iload_n hx hb dX8_reaches_69 rfl (lv_at hl 3 rfl) ?_
          refine lv_i2l hx hb dX8_reaches_70 rfl ?_
          refine lv_ldc2 (v := 256) hx hb hown (hts (.constantLong RX8 228 (256)) (List.mem_of_getElem? (i := 3) rfl)) dX8_reaches_71 ?_
          refine lv_ldc2 (v := 259) hx hb hown (hts (.constantLong RX8 230 (259)) (List.mem_of_getElem? (i := 4) rfl)) dX8_reaches_74 ?_
          refine kCallI (wr := [(m0, .inr (8, [.ref mH, .int aM, .long aC, .int mM, .long mQ, .int oV, .int pL, .int lI, .int sW, .int dP, .int sT, .long aT, .int cH, .int iW, .ref mI, .ref mJ, .ref mS, .ref mD, .int iH, .int aE, .int mN, .long sZ, .ref mX, .int tS, .int tA, .int tW, .ref mA, .ref mB, .ref mW, .ref mL, .int lS])), (mI, .inl (cL, 1200, .inr (.inl fI))), (mJ, .inl (cI, 4, .inl (k4i j0 j1 j2 j3))), (mS, .inl (cI, 4, .inl (k4i s0 s1 s2 s3)))]) (va_runS (As := [.long b.toInt64, .long 256, .long 259]) (rest := []) ⟨hx, hb, hml, hown, hts⟩ (q_in l D cI cL cB cZ cT _ (b.toInt64) 256 259) (va_cwS 3 hts gX8_reaches_X8_in rfl rfl rfl (by decide +kernel) ⟨Nat.le_of_ble_eq_true rfl, Nat.le_of_ble_eq_true rfl⟩) (kPreS hG hP hD [] rfl (by decide)) rfl rfl hl.1 rfl (lv_room (Nat.le_of_ble_eq_true rfl)) dX8_reaches_77 ⟨Nat.le_of_ble_eq_true rfl, Nat.le_of_ble_eq_true rfl⟩) hA hP hD hS [] [0, 1, 2, 3] rfl rfl (by decide) (by decide) (fun r_5 u_r_5 H locs wr_5 hP hD hS => ?_)
          have hP : va_P D vwCl [(m0, .inr (8, [.ref mH, .int aM, .long aC, .int mM, .long mQ, .int oV, .int pL, .int lI, .int sW, .int dP, .int sT, .long aT, .int cH, .int iW, .ref mI, .ref mJ, .ref mS, .ref mD, .int iH, .int aE, .int mN, .long sZ, .ref mX, .int tS, .int tA, .int tW, .ref mA, .ref mB, .ref mW, .ref mL, .int lS])), (mI, .inl (cL, 1200, .inr (.inl fI))), (mJ, .inl (cI, 4, .inl (k4i j0 j1 j2 j3))), (mS, .inl (cI, 4, .inl (k4i s0 s1 s2 s3)))] H := hP
          have hD : va_D A [(m0, .inr (8, [.ref mH, .int aM, .long aC, .int mM, .long mQ, .int oV, .int pL, .int lI, .int sW, .int dP, .int sT, .long aT, .int cH, .int iW, .ref mI, .ref mJ, .ref mS, .ref mD, .int iH, .int aE, .int mN, .long sZ, .ref mX, .int tS, .int tA, .int tW, .ref mA, .ref mB, .ref mW, .ref mL, .int lS])), (mI, .inl (cL, 1200, .inr (.inl fI))), (mJ, .inl (cI, 4, .inl (k4i j0 j1 j2 j3))), (mS, .inl (cI, 4, .inl (k4i s0 s1 s2 s3)))] := hD
          try dsimp only at wr_5
          subst wr_5
          refine lv_if_ne (tgt := 85) hx hb dX8_reaches_80 (by decide) (fun c_80_5 => ?_) (fun c_80_5 => ?_)
          · have t_80_5 := c_80_5
            try simp only [kb_eq0, kb_ne0, lg_cmp_lt, lg_cmp_le, lg_cmp_gt, lg_cmp_ge, lg_cmp_eq] at t_80_5
            try simp only [Int32.lt_iff_toInt_lt, Int32.le_iff_toInt_le, ← Int32.toInt_inj, Int64.lt_iff_toInt_lt, Int64.le_iff_toInt_le, ← Int64.toInt_inj, Int32.toInt_toInt64, Int32.reduceToInt, Int64.reduceToInt] at t_80_5
            refine lv_aload_n hx hb dX8_reaches_85 rfl (lv_at hl 1 rfl) ?_
            refine kCallI (wr := []) (va_runV (As := []) (rest := []) ⟨hx, hb, hml, hown, hts⟩ (q_endsRecord l D cI cL cB cZ cT _ m0 mH mI mJ mS mD mX mA mB mW mL aM aC mM mQ oV pL lI sW dP sT aT cH iW iH aE mN sZ tS tA tW lS fI j0 j1 j2 j3 s0 s1 s2 s3 (by omega) (by omega)) (cwV 0 hts gX8_reaches_X8_endsRecord rfl rfl rfl (by decide +kernel) ⟨Nat.le_of_ble_eq_true rfl, Nat.le_of_ble_eq_true rfl⟩) (kPreV hG hP hD [0, 1, 2, 3] rfl (by decide) 0 8 rfl rfl rfl) rfl rfl hl.1 rfl (lv_room (Nat.le_of_ble_eq_true rfl)) dX8_reaches_86 ⟨Nat.le_of_ble_eq_true rfl, Nat.le_of_ble_eq_true rfl⟩) hA hP hD hS [0, 1, 2, 3] [] rfl rfl (by decide) (by decide) (fun r_7 u_r_7 H locs wr_7 hP hD hS => ?_)
            have hP : va_P D vwCl [(m0, .inr (8, [.ref mH, .int aM, .long aC, .int mM, .long mQ, .int oV, .int pL, .int lI, .int sW, .int dP, .int sT, .long aT, .int cH, .int u_r_7.1, .ref mI, .ref mJ, .ref mS, .ref mD, .int iH, .int aE, .int mN, .long sZ, .ref mX, .int tS, .int tA, .int tW, .ref mA, .ref mB, .ref mW, .ref mL, .int lS])), (mI, .inl (cL, 1200, .inr (.inl u_r_7.2.1))), (mJ, .inl (cI, 4, .inl (k4i u_r_7.2.2.1 u_r_7.2.2.2.1 u_r_7.2.2.2.2.1 u_r_7.2.2.2.2.2.1))), (mS, .inl (cI, 4, .inl (k4i u_r_7.2.2.2.2.2.2.1 u_r_7.2.2.2.2.2.2.2.1 u_r_7.2.2.2.2.2.2.2.2.1 u_r_7.2.2.2.2.2.2.2.2.2)))] H := hP
            have hD : va_D A [(m0, .inr (8, [.ref mH, .int aM, .long aC, .int mM, .long mQ, .int oV, .int pL, .int lI, .int sW, .int dP, .int sT, .long aT, .int cH, .int u_r_7.1, .ref mI, .ref mJ, .ref mS, .ref mD, .int iH, .int aE, .int mN, .long sZ, .ref mX, .int tS, .int tA, .int tW, .ref mA, .ref mB, .ref mW, .ref mL, .int lS])), (mI, .inl (cL, 1200, .inr (.inl u_r_7.2.1))), (mJ, .inl (cI, 4, .inl (k4i u_r_7.2.2.1 u_r_7.2.2.2.1 u_r_7.2.2.2.2.1 u_r_7.2.2.2.2.2.1))), (mS, .inl (cI, 4, .inl (k4i u_r_7.2.2.2.2.2.2.1 u_r_7.2.2.2.2.2.2.2.1 u_r_7.2.2.2.2.2.2.2.2.1 u_r_7.2.2.2.2.2.2.2.2.2)))] := hD
            try dsimp only at wr_7
            try simp only [Int32.reduceToInt, Int64.reduceToInt] at wr_7
            refine lv_if_ne (tgt := 94) hx hb dX8_reaches_89 (by decide) (fun c_89_7 => ?_) (fun c_89_7 => ?_)
            · have t_89_7 := c_89_7
              try simp only [kb_eq0, kb_ne0, lg_cmp_lt, lg_cmp_le, lg_cmp_gt, lg_cmp_ge, lg_cmp_eq] at t_89_7
              try simp only [Int32.lt_iff_toInt_lt, Int32.le_iff_toInt_le, ← Int32.toInt_inj, Int64.lt_iff_toInt_lt, Int64.le_iff_toInt_le, ← Int64.toInt_inj, Int32.toInt_toInt64, Int32.reduceToInt, Int64.reduceToInt] at t_89_7
              rcases ksw_256_259 b with hsw | rfl | rfl | rfl | rfl
              · omega
              · refine lv_iload_n hx hb dX8_reaches_94 rfl (lv_at hl 3 rfl) ?_
                refine lv_sipush (v := 256) hx hb dX8_reaches_95 (by decide) ?_
                refine lv_isub hx hb dX8_reaches_98 ?_
                refine lv_topi (fun x_9 ex_9 => ?_)
                obtain rfl : x_9 = 0 := ex_9.trans (by decide)
                refine lv_istore (lv' := [(4, .int 0), (3, .int 0), (0, .ref m0), (1, .int a), (2, .int 256)]) hx hb dX8_reaches_99 hl (by decide) rfl (fun ls hl => ?_)
                refine lv_iload_n hx hb dX8_reaches_101 rfl (lv_at hl 3 rfl) ?_
                rcases ksw_24_27 a with hsw | rfl | rfl | rfl | rfl
                · refine lv_tableOut (tgt := 238) hx hb dX8_reaches_102 hsw (by decide) ?_
                  refine lv_aload_n hx hb dX8_reaches_238 rfl (lv_at hl 2 rfl) ?_
                  refine va_get (D := D) (ci := 8) (v := .ref mS) (C := RX8) (T := TX8) (N := 31) hx hb hts iX8_reaches_X8 hown hK hP 0 rfl rfl 16 (by decide) (hts (.fieldLink RX8 20 "TapeCalculatorModel" "stands" "[I") (List.mem_of_getElem? (i := 6) rfl)) (fun _ h9 => h9) rfl dX8_reaches_239 ?_
                  refine lv_iload hx hb dX8_reaches_242 (lv_at hl 0 rfl) ?_
                  refine lv_iconst (v := 0) hx hb dX8_reaches_244 (by decide) ?_
                  refine va_iast hx hb hK hP hD hS 3 0 rfl rfl (vp_in_iff.mpr (by decide)) dX8_reaches_245 (fun H locs hP hD hS => ?_)
                  rw [k4i_0] at hP hD
                  have hP : va_P D vwCl [(m0, .inr (8, [.ref mH, .int aM, .long aC, .int mM, .long mQ, .int oV, .int pL, .int lI, .int sW, .int dP, .int sT, .long aT, .int cH, .int u_r_7.1, .ref mI, .ref mJ, .ref mS, .ref mD, .int iH, .int aE, .int mN, .long sZ, .ref mX, .int tS, .int tA, .int tW, .ref mA, .ref mB, .ref mW, .ref mL, .int lS])), (mI, .inl (cL, 1200, .inr (.inl u_r_7.2.1))), (mJ, .inl (cI, 4, .inl (k4i u_r_7.2.2.1 u_r_7.2.2.2.1 u_r_7.2.2.2.2.1 u_r_7.2.2.2.2.2.1))), (mS, .inl (cI, 4, .inl (k4i 0 u_r_7.2.2.2.2.2.2.2.1 u_r_7.2.2.2.2.2.2.2.2.1 u_r_7.2.2.2.2.2.2.2.2.2)))] H := hP
                  have hD : va_D A [(m0, .inr (8, [.ref mH, .int aM, .long aC, .int mM, .long mQ, .int oV, .int pL, .int lI, .int sW, .int dP, .int sT, .long aT, .int cH, .int u_r_7.1, .ref mI, .ref mJ, .ref mS, .ref mD, .int iH, .int aE, .int mN, .long sZ, .ref mX, .int tS, .int tA, .int tW, .ref mA, .ref mB, .ref mW, .ref mL, .int lS])), (mI, .inl (cL, 1200, .inr (.inl u_r_7.2.1))), (mJ, .inl (cI, 4, .inl (k4i u_r_7.2.2.1 u_r_7.2.2.2.1 u_r_7.2.2.2.2.1 u_r_7.2.2.2.2.2.1))), (mS, .inl (cI, 4, .inl (k4i 0 u_r_7.2.2.2.2.2.2.2.1 u_r_7.2.2.2.2.2.2.2.2.1 u_r_7.2.2.2.2.2.2.2.2.2)))] := hD
                  refine lv_aload_n hx hb dX8_reaches_246 rfl (lv_at hl 2 rfl) ?_
                  refine lv_iconst (v := 0) hx hb dX8_reaches_247 (by decide) ?_
                  refine va_put (D := D) (ci := 8) (v := .int 0) (ty := .int) (C := RX8) (T := TX8) (N := 31) hx hb hts iX8_reaches_X8 tyX8 tyX8_ok nmX8 hown hK hP hD hS 0 rfl rfl 12 (by decide) (hts (.fieldLink RX8 43 "TapeCalculatorModel" "chosen" "I") (List.mem_of_getElem? (i := 1) rfl)) (fun _ h9 => h9) rfl (by decide +kernel) rfl rfl (Nat.le_of_ble_eq_true rfl) dX8_reaches_248 (fun H locs hP hD hS => ?_)
                  have hP : va_P D vwCl [(m0, .inr (8, [.ref mH, .int aM, .long aC, .int mM, .long mQ, .int oV, .int pL, .int lI, .int sW, .int dP, .int sT, .long aT, .int 0, .int u_r_7.1, .ref mI, .ref mJ, .ref mS, .ref mD, .int iH, .int aE, .int mN, .long sZ, .ref mX, .int tS, .int tA, .int tW, .ref mA, .ref mB, .ref mW, .ref mL, .int lS])), (mI, .inl (cL, 1200, .inr (.inl u_r_7.2.1))), (mJ, .inl (cI, 4, .inl (k4i u_r_7.2.2.1 u_r_7.2.2.2.1 u_r_7.2.2.2.2.1 u_r_7.2.2.2.2.2.1))), (mS, .inl (cI, 4, .inl (k4i 0 u_r_7.2.2.2.2.2.2.2.1 u_r_7.2.2.2.2.2.2.2.2.1 u_r_7.2.2.2.2.2.2.2.2.2)))] H := hP
                  have hD : va_D A [(m0, .inr (8, [.ref mH, .int aM, .long aC, .int mM, .long mQ, .int oV, .int pL, .int lI, .int sW, .int dP, .int sT, .long aT, .int 0, .int u_r_7.1, .ref mI, .ref mJ, .ref mS, .ref mD, .int iH, .int aE, .int mN, .long sZ, .ref mX, .int tS, .int tA, .int tW, .ref mA, .ref mB, .ref mW, .ref mL, .int lS])), (mI, .inl (cL, 1200, .inr (.inl u_r_7.2.1))), (mJ, .inl (cI, 4, .inl (k4i u_r_7.2.2.1 u_r_7.2.2.2.1 u_r_7.2.2.2.2.1 u_r_7.2.2.2.2.2.1))), (mS, .inl (cI, 4, .inl (k4i 0 u_r_7.2.2.2.2.2.2.2.1 u_r_7.2.2.2.2.2.2.2.2.1 u_r_7.2.2.2.2.2.2.2.2.2)))] := hD
                  refine lv_iconst (v := 0) hx hb dX8_reaches_251 (by decide) ?_
                  refine kIret (u := (pL, lI, dP, 0, u_r_7.1, u_r_7.2.1, u_r_7.2.2.1, u_r_7.2.2.2.1, u_r_7.2.2.2.2.1, u_r_7.2.2.2.2.2.1, 0, u_r_7.2.2.2.2.2.2.2.1, u_r_7.2.2.2.2.2.2.2.2.1, u_r_7.2.2.2.2.2.2.2.2.2)) hx hb hr rfl hlocks hS dX8_reaches_252 ?_ (hP.sub [0, 1, 2, 3] rfl) (hD.sub [0, 1, 2, 3] (by decide) rfl)
                  try dsimp only
                  try simp only [Int32.reduceToInt, Int64.reduceToInt, true_or, or_true, true_and, and_true]
                  repeat' apply And.intro
                  all_goals first | assumption | omega
                · refine lv_tableIn (tgt := 132) (off := 30) hx hb dX8_reaches_102 (by decide) (by decide) (by decide) (by decide) ?_
                  refine lv_aload_n hx hb dX8_reaches_132 rfl (lv_at hl 2 rfl) ?_
                  refine lv_iload_n hx hb dX8_reaches_133 rfl (lv_at hl 1 rfl) ?_
                  refine lv_if_eq (tgt := 142) hx hb dX8_reaches_134 (by decide) (fun c_134_9 => ?_) (fun c_134_9 => ?_)
                  · have t_134_9 := c_134_9
                    try simp only [kb_eq0, kb_ne0, lg_cmp_lt, lg_cmp_le, lg_cmp_gt, lg_cmp_ge, lg_cmp_eq] at t_134_9
                    try simp only [Int32.lt_iff_toInt_lt, Int32.le_iff_toInt_le, ← Int32.toInt_inj, Int64.lt_iff_toInt_lt, Int64.le_iff_toInt_le, ← Int64.toInt_inj, Int32.toInt_toInt64, Int32.reduceToInt, Int64.reduceToInt] at t_134_9
                    refine lv_iconst (v := 1) hx hb dX8_reaches_142 (by decide) ?_
                    refine lv_iload hx hb dX8_reaches_143 (lv_at hl 0 rfl) ?_
                    refine lv_iadd hx hb dX8_reaches_145 ?_
                    refine lv_topi (fun x_11 ex_11 => ?_)
                    obtain rfl : x_11 = 1 := ex_11.trans (by decide)
                    refine va_put (D := D) (ci := 8) (v := .int 1) (ty := .int) (C := RX8) (T := TX8) (N := 31) hx hb hts iX8_reaches_X8 tyX8 tyX8_ok nmX8 hown hK hP hD hS 0 rfl rfl 12 (by decide) (hts (.fieldLink RX8 43 "TapeCalculatorModel" "chosen" "I") (List.mem_of_getElem? (i := 1) rfl)) (fun _ h9 => h9) rfl (by decide +kernel) rfl rfl (Nat.le_of_ble_eq_true rfl) dX8_reaches_146 (fun H locs hP hD hS => ?_)
                    have hP : va_P D vwCl [(m0, .inr (8, [.ref mH, .int aM, .long aC, .int mM, .long mQ, .int oV, .int pL, .int lI, .int sW, .int dP, .int sT, .long aT, .int 1, .int u_r_7.1, .ref mI, .ref mJ, .ref mS, .ref mD, .int iH, .int aE, .int mN, .long sZ, .ref mX, .int tS, .int tA, .int tW, .ref mA, .ref mB, .ref mW, .ref mL, .int lS])), (mI, .inl (cL, 1200, .inr (.inl u_r_7.2.1))), (mJ, .inl (cI, 4, .inl (k4i u_r_7.2.2.1 u_r_7.2.2.2.1 u_r_7.2.2.2.2.1 u_r_7.2.2.2.2.2.1))), (mS, .inl (cI, 4, .inl (k4i u_r_7.2.2.2.2.2.2.1 u_r_7.2.2.2.2.2.2.2.1 u_r_7.2.2.2.2.2.2.2.2.1 u_r_7.2.2.2.2.2.2.2.2.2)))] H := hP
                    have hD : va_D A [(m0, .inr (8, [.ref mH, .int aM, .long aC, .int mM, .long mQ, .int oV, .int pL, .int lI, .int sW, .int dP, .int sT, .long aT, .int 1, .int u_r_7.1, .ref mI, .ref mJ, .ref mS, .ref mD, .int iH, .int aE, .int mN, .long sZ, .ref mX, .int tS, .int tA, .int tW, .ref mA, .ref mB, .ref mW, .ref mL, .int lS])), (mI, .inl (cL, 1200, .inr (.inl u_r_7.2.1))), (mJ, .inl (cI, 4, .inl (k4i u_r_7.2.2.1 u_r_7.2.2.2.1 u_r_7.2.2.2.2.1 u_r_7.2.2.2.2.2.1))), (mS, .inl (cI, 4, .inl (k4i u_r_7.2.2.2.2.2.2.1 u_r_7.2.2.2.2.2.2.2.1 u_r_7.2.2.2.2.2.2.2.2.1 u_r_7.2.2.2.2.2.2.2.2.2)))] := hD
                    refine lv_goto (tgt := 251) hx hb dX8_reaches_149 (by decide) ?_
                    refine lv_iconst (v := 0) hx hb dX8_reaches_251 (by decide) ?_
                    refine kIret (u := (pL, lI, dP, 1, u_r_7.1, u_r_7.2.1, u_r_7.2.2.1, u_r_7.2.2.2.1, u_r_7.2.2.2.2.1, u_r_7.2.2.2.2.2.1, u_r_7.2.2.2.2.2.2.1, u_r_7.2.2.2.2.2.2.2.1, u_r_7.2.2.2.2.2.2.2.2.1, u_r_7.2.2.2.2.2.2.2.2.2)) hx hb hr rfl hlocks hS dX8_reaches_252 ?_ (hP.sub [0, 1, 2, 3] rfl) (hD.sub [0, 1, 2, 3] (by decide) rfl)
                    try dsimp only
                    try simp only [Int32.reduceToInt, Int64.reduceToInt, true_or, or_true, true_and, and_true]
                    repeat' apply And.intro
                    all_goals first | assumption | omega
                  · exact absurd (by decide) c_134_9
                · refine lv_tableIn (tgt := 152) (off := 50) hx hb dX8_reaches_102 (by decide) (by decide) (by decide) (by decide) ?_
                  refine lv_aload_n hx hb dX8_reaches_152 rfl (lv_at hl 2 rfl) ?_
                  refine lv_iconst (v := 5) hx hb dX8_reaches_153 (by decide) ?_
                  refine lv_iload hx hb dX8_reaches_154 (lv_at hl 0 rfl) ?_
                  refine lv_iadd hx hb dX8_reaches_156 ?_
                  refine lv_topi (fun x_12 ex_12 => ?_)
                  obtain rfl : x_12 = 5 := ex_12.trans (by decide)
                  refine va_put (D := D) (ci := 8) (v := .int 5) (ty := .int) (C := RX8) (T := TX8) (N := 31) hx hb hts iX8_reaches_X8 tyX8 tyX8_ok nmX8 hown hK hP hD hS 0 rfl rfl 12 (by decide) (hts (.fieldLink RX8 43 "TapeCalculatorModel" "chosen" "I") (List.mem_of_getElem? (i := 1) rfl)) (fun _ h9 => h9) rfl (by decide +kernel) rfl rfl (Nat.le_of_ble_eq_true rfl) dX8_reaches_157 (fun H locs hP hD hS => ?_)
                  have hP : va_P D vwCl [(m0, .inr (8, [.ref mH, .int aM, .long aC, .int mM, .long mQ, .int oV, .int pL, .int lI, .int sW, .int dP, .int sT, .long aT, .int 5, .int u_r_7.1, .ref mI, .ref mJ, .ref mS, .ref mD, .int iH, .int aE, .int mN, .long sZ, .ref mX, .int tS, .int tA, .int tW, .ref mA, .ref mB, .ref mW, .ref mL, .int lS])), (mI, .inl (cL, 1200, .inr (.inl u_r_7.2.1))), (mJ, .inl (cI, 4, .inl (k4i u_r_7.2.2.1 u_r_7.2.2.2.1 u_r_7.2.2.2.2.1 u_r_7.2.2.2.2.2.1))), (mS, .inl (cI, 4, .inl (k4i u_r_7.2.2.2.2.2.2.1 u_r_7.2.2.2.2.2.2.2.1 u_r_7.2.2.2.2.2.2.2.2.1 u_r_7.2.2.2.2.2.2.2.2.2)))] H := hP
                  have hD : va_D A [(m0, .inr (8, [.ref mH, .int aM, .long aC, .int mM, .long mQ, .int oV, .int pL, .int lI, .int sW, .int dP, .int sT, .long aT, .int 5, .int u_r_7.1, .ref mI, .ref mJ, .ref mS, .ref mD, .int iH, .int aE, .int mN, .long sZ, .ref mX, .int tS, .int tA, .int tW, .ref mA, .ref mB, .ref mW, .ref mL, .int lS])), (mI, .inl (cL, 1200, .inr (.inl u_r_7.2.1))), (mJ, .inl (cI, 4, .inl (k4i u_r_7.2.2.1 u_r_7.2.2.2.1 u_r_7.2.2.2.2.1 u_r_7.2.2.2.2.2.1))), (mS, .inl (cI, 4, .inl (k4i u_r_7.2.2.2.2.2.2.1 u_r_7.2.2.2.2.2.2.2.1 u_r_7.2.2.2.2.2.2.2.2.1 u_r_7.2.2.2.2.2.2.2.2.2)))] := hD
                  refine lv_goto (tgt := 251) hx hb dX8_reaches_160 (by decide) ?_
                  refine lv_iconst (v := 0) hx hb dX8_reaches_251 (by decide) ?_
                  refine kIret (u := (pL, lI, dP, 5, u_r_7.1, u_r_7.2.1, u_r_7.2.2.1, u_r_7.2.2.2.1, u_r_7.2.2.2.2.1, u_r_7.2.2.2.2.2.1, u_r_7.2.2.2.2.2.2.1, u_r_7.2.2.2.2.2.2.2.1, u_r_7.2.2.2.2.2.2.2.2.1, u_r_7.2.2.2.2.2.2.2.2.2)) hx hb hr rfl hlocks hS dX8_reaches_252 ?_ (hP.sub [0, 1, 2, 3] rfl) (hD.sub [0, 1, 2, 3] (by decide) rfl)
                  try dsimp only
                  try simp only [Int32.reduceToInt, Int64.reduceToInt, true_or, or_true, true_and, and_true]
                  repeat' apply And.intro
                  all_goals first | assumption | omega
                · refine lv_tableIn (tgt := 163) (off := 61) hx hb dX8_reaches_102 (by decide) (by decide) (by decide) (by decide) ?_
                  refine lv_iload_n hx hb dX8_reaches_163 rfl (lv_at hl 1 rfl) ?_
                  refine lv_if_ne (tgt := 181) hx hb dX8_reaches_164 (by decide) (fun c_164_12 => ?_) (fun c_164_12 => ?_)
                  · exact absurd (by decide) c_164_12
                  · have t_164_12 := c_164_12
                    try simp only [kb_eq0, kb_ne0, lg_cmp_lt, lg_cmp_le, lg_cmp_gt, lg_cmp_ge, lg_cmp_eq] at t_164_12
                    try simp only [Int32.lt_iff_toInt_lt, Int32.le_iff_toInt_le, ← Int32.toInt_inj, Int64.lt_iff_toInt_lt, Int64.le_iff_toInt_le, ← Int64.toInt_inj, Int32.toInt_toInt64, Int32.reduceToInt, Int64.reduceToInt] at t_164_12
                    refine lv_aload_n hx hb dX8_reaches_167 rfl (lv_at hl 2 rfl) ?_
                    refine va_get (D := D) (ci := 8) (v := .ref mJ) (C := RX8) (T := TX8) (N := 31) hx hb hts iX8_reaches_X8 hown hK hP 0 rfl rfl 15 (by decide) (hts (.fieldLink RX8 17 "TapeCalculatorModel" "items" "[I") (List.mem_of_getElem? (i := 5) rfl)) (fun _ h9 => h9) rfl dX8_reaches_168 ?_
                    refine lv_iload hx hb dX8_reaches_171 (lv_at hl 0 rfl) ?_
                    refine lv_aload_n hx hb dX8_reaches_173 rfl (lv_at hl 2 rfl) ?_
                    refine va_get (D := D) (ci := 8) (v := .ref mS) (C := RX8) (T := TX8) (N := 31) hx hb hts iX8_reaches_X8 hown hK hP 0 rfl rfl 16 (by decide) (hts (.fieldLink RX8 20 "TapeCalculatorModel" "stands" "[I") (List.mem_of_getElem? (i := 6) rfl)) (fun _ h9 => h9) rfl dX8_reaches_174 ?_
                    refine lv_iload hx hb dX8_reaches_177 (lv_at hl 0 rfl) ?_
                    refine va_iald hx hb hK hP 3 0 rfl rfl (vp_in_iff.mpr (by decide)) dX8_reaches_179 ?_
                    refine lv_topi (fun x_14 ex_14 => ?_)
                    obtain rfl : u_r_7.2.2.2.2.2.2.1 = x_14 := ex_14.symm
                    refine va_iast hx hb hK hP hD hS 2 0 rfl rfl (vp_in_iff.mpr (by decide)) dX8_reaches_180 (fun H locs hP hD hS => ?_)
                    rw [k4i_0] at hP hD
                    have hP : va_P D vwCl [(m0, .inr (8, [.ref mH, .int aM, .long aC, .int mM, .long mQ, .int oV, .int pL, .int lI, .int sW, .int dP, .int sT, .long aT, .int cH, .int u_r_7.1, .ref mI, .ref mJ, .ref mS, .ref mD, .int iH, .int aE, .int mN, .long sZ, .ref mX, .int tS, .int tA, .int tW, .ref mA, .ref mB, .ref mW, .ref mL, .int lS])), (mI, .inl (cL, 1200, .inr (.inl u_r_7.2.1))), (mJ, .inl (cI, 4, .inl (k4i (u_r_7.2.2.2.2.2.2.1) u_r_7.2.2.2.1 u_r_7.2.2.2.2.1 u_r_7.2.2.2.2.2.1))), (mS, .inl (cI, 4, .inl (k4i u_r_7.2.2.2.2.2.2.1 u_r_7.2.2.2.2.2.2.2.1 u_r_7.2.2.2.2.2.2.2.2.1 u_r_7.2.2.2.2.2.2.2.2.2)))] H := hP
                    have hD : va_D A [(m0, .inr (8, [.ref mH, .int aM, .long aC, .int mM, .long mQ, .int oV, .int pL, .int lI, .int sW, .int dP, .int sT, .long aT, .int cH, .int u_r_7.1, .ref mI, .ref mJ, .ref mS, .ref mD, .int iH, .int aE, .int mN, .long sZ, .ref mX, .int tS, .int tA, .int tW, .ref mA, .ref mB, .ref mW, .ref mL, .int lS])), (mI, .inl (cL, 1200, .inr (.inl u_r_7.2.1))), (mJ, .inl (cI, 4, .inl (k4i (u_r_7.2.2.2.2.2.2.1) u_r_7.2.2.2.1 u_r_7.2.2.2.2.1 u_r_7.2.2.2.2.2.1))), (mS, .inl (cI, 4, .inl (k4i u_r_7.2.2.2.2.2.2.1 u_r_7.2.2.2.2.2.2.2.1 u_r_7.2.2.2.2.2.2.2.2.1 u_r_7.2.2.2.2.2.2.2.2.2)))] := hD
                    refine lv_aload_n hx hb dX8_reaches_181 rfl (lv_at hl 2 rfl) ?_
                    refine lv_iload_n hx hb dX8_reaches_182 rfl (lv_at hl 1 rfl) ?_
                    refine lv_if_eq (tgt := 191) hx hb dX8_reaches_183 (by decide) (fun c_183_14 => ?_) (fun c_183_14 => ?_)
                    · have t_183_14 := c_183_14
                      try simp only [kb_eq0, kb_ne0, lg_cmp_lt, lg_cmp_le, lg_cmp_gt, lg_cmp_ge, lg_cmp_eq] at t_183_14
                      try simp only [Int32.lt_iff_toInt_lt, Int32.le_iff_toInt_le, ← Int32.toInt_inj, Int64.lt_iff_toInt_lt, Int64.le_iff_toInt_le, ← Int64.toInt_inj, Int32.toInt_toInt64, Int32.reduceToInt, Int64.reduceToInt] at t_183_14
                      refine lv_bipush (v := 9) hx hb dX8_reaches_191 (by decide) ?_
                      refine lv_iload hx hb dX8_reaches_193 (lv_at hl 0 rfl) ?_
                      refine lv_iadd hx hb dX8_reaches_195 ?_
                      refine lv_topi (fun x_16 ex_16 => ?_)
                      obtain rfl : x_16 = 9 := ex_16.trans (by decide)
                      refine va_put (D := D) (ci := 8) (v := .int 9) (ty := .int) (C := RX8) (T := TX8) (N := 31) hx hb hts iX8_reaches_X8 tyX8 tyX8_ok nmX8 hown hK hP hD hS 0 rfl rfl 12 (by decide) (hts (.fieldLink RX8 43 "TapeCalculatorModel" "chosen" "I") (List.mem_of_getElem? (i := 1) rfl)) (fun _ h9 => h9) rfl (by decide +kernel) rfl rfl (Nat.le_of_ble_eq_true rfl) dX8_reaches_196 (fun H locs hP hD hS => ?_)
                      have hP : va_P D vwCl [(m0, .inr (8, [.ref mH, .int aM, .long aC, .int mM, .long mQ, .int oV, .int pL, .int lI, .int sW, .int dP, .int sT, .long aT, .int 9, .int u_r_7.1, .ref mI, .ref mJ, .ref mS, .ref mD, .int iH, .int aE, .int mN, .long sZ, .ref mX, .int tS, .int tA, .int tW, .ref mA, .ref mB, .ref mW, .ref mL, .int lS])), (mI, .inl (cL, 1200, .inr (.inl u_r_7.2.1))), (mJ, .inl (cI, 4, .inl (k4i (u_r_7.2.2.2.2.2.2.1) u_r_7.2.2.2.1 u_r_7.2.2.2.2.1 u_r_7.2.2.2.2.2.1))), (mS, .inl (cI, 4, .inl (k4i u_r_7.2.2.2.2.2.2.1 u_r_7.2.2.2.2.2.2.2.1 u_r_7.2.2.2.2.2.2.2.2.1 u_r_7.2.2.2.2.2.2.2.2.2)))] H := hP
                      have hD : va_D A [(m0, .inr (8, [.ref mH, .int aM, .long aC, .int mM, .long mQ, .int oV, .int pL, .int lI, .int sW, .int dP, .int sT, .long aT, .int 9, .int u_r_7.1, .ref mI, .ref mJ, .ref mS, .ref mD, .int iH, .int aE, .int mN, .long sZ, .ref mX, .int tS, .int tA, .int tW, .ref mA, .ref mB, .ref mW, .ref mL, .int lS])), (mI, .inl (cL, 1200, .inr (.inl u_r_7.2.1))), (mJ, .inl (cI, 4, .inl (k4i (u_r_7.2.2.2.2.2.2.1) u_r_7.2.2.2.1 u_r_7.2.2.2.2.1 u_r_7.2.2.2.2.2.1))), (mS, .inl (cI, 4, .inl (k4i u_r_7.2.2.2.2.2.2.1 u_r_7.2.2.2.2.2.2.2.1 u_r_7.2.2.2.2.2.2.2.2.1 u_r_7.2.2.2.2.2.2.2.2.2)))] := hD
                      refine lv_goto (tgt := 251) hx hb dX8_reaches_199 (by decide) ?_
                      refine lv_iconst (v := 0) hx hb dX8_reaches_251 (by decide) ?_
                      refine kIret (u := (pL, lI, dP, 9, u_r_7.1, u_r_7.2.1, (u_r_7.2.2.2.2.2.2.1), u_r_7.2.2.2.1, u_r_7.2.2.2.2.1, u_r_7.2.2.2.2.2.1, u_r_7.2.2.2.2.2.2.1, u_r_7.2.2.2.2.2.2.2.1, u_r_7.2.2.2.2.2.2.2.2.1, u_r_7.2.2.2.2.2.2.2.2.2)) hx hb hr rfl hlocks hS dX8_reaches_252 ?_ (hP.sub [0, 1, 2, 3] rfl) (hD.sub [0, 1, 2, 3] (by decide) rfl)
                      try dsimp only
                      try simp only [Int32.reduceToInt, Int64.reduceToInt, true_or, or_true, true_and, and_true]
                      repeat' apply And.intro
                      all_goals first | assumption | omega
                    · exact absurd (by decide) c_183_14
                · refine lv_tableIn (tgt := 202) (off := 100) hx hb dX8_reaches_102 (by decide) (by decide) (by decide) (by decide) ?_
                  refine lv_aload_n hx hb dX8_reaches_202 rfl (lv_at hl 2 rfl) ?_
                  refine va_get (D := D) (ci := 8) (v := .ref mJ) (C := RX8) (T := TX8) (N := 31) hx hb hts iX8_reaches_X8 hown hK hP 0 rfl rfl 15 (by decide) (hts (.fieldLink RX8 17 "TapeCalculatorModel" "items" "[I") (List.mem_of_getElem? (i := 5) rfl)) (fun _ h9 => h9) rfl dX8_reaches_203 ?_
                  refine lv_iload hx hb dX8_reaches_206 (lv_at hl 0 rfl) ?_
                  refine lv_aload_n hx hb dX8_reaches_208 rfl (lv_at hl 2 rfl) ?_
                  refine va_get (D := D) (ci := 8) (v := .ref mS) (C := RX8) (T := TX8) (N := 31) hx hb hts iX8_reaches_X8 hown hK hP 0 rfl rfl 16 (by decide) (hts (.fieldLink RX8 20 "TapeCalculatorModel" "stands" "[I") (List.mem_of_getElem? (i := 6) rfl)) (fun _ h9 => h9) rfl dX8_reaches_209 ?_
                  refine lv_iload hx hb dX8_reaches_212 (lv_at hl 0 rfl) ?_
                  refine va_iald hx hb hK hP 3 0 rfl rfl (vp_in_iff.mpr (by decide)) dX8_reaches_214 ?_
                  refine lv_topi (fun x_17 ex_17 => ?_)
                  obtain rfl : u_r_7.2.2.2.2.2.2.1 = x_17 := ex_17.symm
                  refine va_iast hx hb hK hP hD hS 2 0 rfl rfl (vp_in_iff.mpr (by decide)) dX8_reaches_215 (fun H locs hP hD hS => ?_)
                  rw [k4i_0] at hP hD
                  have hP : va_P D vwCl [(m0, .inr (8, [.ref mH, .int aM, .long aC, .int mM, .long mQ, .int oV, .int pL, .int lI, .int sW, .int dP, .int sT, .long aT, .int cH, .int u_r_7.1, .ref mI, .ref mJ, .ref mS, .ref mD, .int iH, .int aE, .int mN, .long sZ, .ref mX, .int tS, .int tA, .int tW, .ref mA, .ref mB, .ref mW, .ref mL, .int lS])), (mI, .inl (cL, 1200, .inr (.inl u_r_7.2.1))), (mJ, .inl (cI, 4, .inl (k4i (u_r_7.2.2.2.2.2.2.1) u_r_7.2.2.2.1 u_r_7.2.2.2.2.1 u_r_7.2.2.2.2.2.1))), (mS, .inl (cI, 4, .inl (k4i u_r_7.2.2.2.2.2.2.1 u_r_7.2.2.2.2.2.2.2.1 u_r_7.2.2.2.2.2.2.2.2.1 u_r_7.2.2.2.2.2.2.2.2.2)))] H := hP
                  have hD : va_D A [(m0, .inr (8, [.ref mH, .int aM, .long aC, .int mM, .long mQ, .int oV, .int pL, .int lI, .int sW, .int dP, .int sT, .long aT, .int cH, .int u_r_7.1, .ref mI, .ref mJ, .ref mS, .ref mD, .int iH, .int aE, .int mN, .long sZ, .ref mX, .int tS, .int tA, .int tW, .ref mA, .ref mB, .ref mW, .ref mL, .int lS])), (mI, .inl (cL, 1200, .inr (.inl u_r_7.2.1))), (mJ, .inl (cI, 4, .inl (k4i (u_r_7.2.2.2.2.2.2.1) u_r_7.2.2.2.1 u_r_7.2.2.2.2.1 u_r_7.2.2.2.2.2.1))), (mS, .inl (cI, 4, .inl (k4i u_r_7.2.2.2.2.2.2.1 u_r_7.2.2.2.2.2.2.2.1 u_r_7.2.2.2.2.2.2.2.2.1 u_r_7.2.2.2.2.2.2.2.2.2)))] := hD
                  refine lv_aload_n hx hb dX8_reaches_216 rfl (lv_at hl 2 rfl) ?_
                  refine lv_iload hx hb dX8_reaches_217 (lv_at hl 0 rfl) ?_
                  refine lv_ldc2 (v := (-3)) hx hb hown (hts (.constantLong RX8 113 (-3)) (List.mem_of_getElem? (i := 7) rfl)) dX8_reaches_219 ?_
                  refine kCallI (wr := []) (va_runV (As := [.int 0, .long (-3)]) (rest := []) ⟨hx, hb, hml, hown, hts⟩ (q_puts l D cI cL cB cZ cT _ m0 mH mI mJ mS mD mX mA mB mW mL aM aC mM mQ oV pL lI sW dP sT aT cH (u_r_7.1) iH aE mN sZ tS tA tW lS (u_r_7.2.1) (u_r_7.2.2.2.2.2.2.1) (u_r_7.2.2.2.1) (u_r_7.2.2.2.2.1) (u_r_7.2.2.2.2.2.1) (u_r_7.2.2.2.2.2.2.1) (u_r_7.2.2.2.2.2.2.2.1) (u_r_7.2.2.2.2.2.2.2.2.1) (u_r_7.2.2.2.2.2.2.2.2.2) 0 (-3) (by omega) (by decide)) (cwV 2 hts gX8_reaches_X8_puts rfl rfl rfl (by decide +kernel) ⟨Nat.le_of_ble_eq_true rfl, Nat.le_of_ble_eq_true rfl⟩) (kPreV hG hP hD [0, 1, 2, 3] rfl (by decide) 0 8 rfl rfl rfl) rfl rfl hl.1 rfl (lv_room (Nat.le_of_ble_eq_true rfl)) dX8_reaches_222 ⟨Nat.le_of_ble_eq_true rfl, Nat.le_of_ble_eq_true rfl⟩) hA hP hD hS [0, 1, 2, 3] [] rfl rfl (by decide) (by decide) (fun r_18 u_r_18 H locs wr_18 hP hD hS => ?_)
                  have hP : va_P D vwCl [(m0, .inr (8, [.ref mH, .int aM, .long aC, .int mM, .long mQ, .int oV, .int pL, .int lI, .int sW, .int dP, .int sT, .long aT, .int cH, .int u_r_7.1, .ref mI, .ref mJ, .ref mS, .ref mD, .int iH, .int aE, .int mN, .long sZ, .ref mX, .int tS, .int tA, .int tW, .ref mA, .ref mB, .ref mW, .ref mL, .int lS])), (mI, .inl (cL, 1200, .inr (.inl u_r_18.1))), (mJ, .inl (cI, 4, .inl (k4i u_r_18.2.1 u_r_18.2.2.1 u_r_18.2.2.2.1 u_r_18.2.2.2.2.1))), (mS, .inl (cI, 4, .inl (k4i u_r_18.2.2.2.2.2.1 u_r_18.2.2.2.2.2.2.1 u_r_18.2.2.2.2.2.2.2.1 u_r_18.2.2.2.2.2.2.2.2)))] H := hP
                  have hD : va_D A [(m0, .inr (8, [.ref mH, .int aM, .long aC, .int mM, .long mQ, .int oV, .int pL, .int lI, .int sW, .int dP, .int sT, .long aT, .int cH, .int u_r_7.1, .ref mI, .ref mJ, .ref mS, .ref mD, .int iH, .int aE, .int mN, .long sZ, .ref mX, .int tS, .int tA, .int tW, .ref mA, .ref mB, .ref mW, .ref mL, .int lS])), (mI, .inl (cL, 1200, .inr (.inl u_r_18.1))), (mJ, .inl (cI, 4, .inl (k4i u_r_18.2.1 u_r_18.2.2.1 u_r_18.2.2.2.1 u_r_18.2.2.2.2.1))), (mS, .inl (cI, 4, .inl (k4i u_r_18.2.2.2.2.2.1 u_r_18.2.2.2.2.2.2.1 u_r_18.2.2.2.2.2.2.2.1 u_r_18.2.2.2.2.2.2.2.2)))] := hD
                  try dsimp only at wr_18
                  try simp only [Int32.reduceToInt, Int64.reduceToInt] at wr_18
                  refine lv_if_ne (tgt := 230) hx hb dX8_reaches_225 (by decide) (fun c_225_18 => ?_) (fun c_225_18 => ?_)
                  · have t_225_18 := c_225_18
                    try simp only [kb_eq0, kb_ne0, lg_cmp_lt, lg_cmp_le, lg_cmp_gt, lg_cmp_ge, lg_cmp_eq] at t_225_18
                    try simp only [Int32.lt_iff_toInt_lt, Int32.le_iff_toInt_le, ← Int32.toInt_inj, Int64.lt_iff_toInt_lt, Int64.le_iff_toInt_le, ← Int64.toInt_inj, Int32.toInt_toInt64, Int32.reduceToInt, Int64.reduceToInt] at t_225_18
                    refine lv_aload_n hx hb dX8_reaches_230 rfl (lv_at hl 2 rfl) ?_
                    refine lv_iconst (v := 0) hx hb dX8_reaches_231 (by decide) ?_
                    refine va_put (D := D) (ci := 8) (v := .int 0) (ty := .int) (C := RX8) (T := TX8) (N := 31) hx hb hts iX8_reaches_X8 tyX8 tyX8_ok nmX8 hown hK hP hD hS 0 rfl rfl 12 (by decide) (hts (.fieldLink RX8 43 "TapeCalculatorModel" "chosen" "I") (List.mem_of_getElem? (i := 1) rfl)) (fun _ h9 => h9) rfl (by decide +kernel) rfl rfl (Nat.le_of_ble_eq_true rfl) dX8_reaches_232 (fun H locs hP hD hS => ?_)
                    have hP : va_P D vwCl [(m0, .inr (8, [.ref mH, .int aM, .long aC, .int mM, .long mQ, .int oV, .int pL, .int lI, .int sW, .int dP, .int sT, .long aT, .int 0, .int u_r_7.1, .ref mI, .ref mJ, .ref mS, .ref mD, .int iH, .int aE, .int mN, .long sZ, .ref mX, .int tS, .int tA, .int tW, .ref mA, .ref mB, .ref mW, .ref mL, .int lS])), (mI, .inl (cL, 1200, .inr (.inl u_r_18.1))), (mJ, .inl (cI, 4, .inl (k4i u_r_18.2.1 u_r_18.2.2.1 u_r_18.2.2.2.1 u_r_18.2.2.2.2.1))), (mS, .inl (cI, 4, .inl (k4i u_r_18.2.2.2.2.2.1 u_r_18.2.2.2.2.2.2.1 u_r_18.2.2.2.2.2.2.2.1 u_r_18.2.2.2.2.2.2.2.2)))] H := hP
                    have hD : va_D A [(m0, .inr (8, [.ref mH, .int aM, .long aC, .int mM, .long mQ, .int oV, .int pL, .int lI, .int sW, .int dP, .int sT, .long aT, .int 0, .int u_r_7.1, .ref mI, .ref mJ, .ref mS, .ref mD, .int iH, .int aE, .int mN, .long sZ, .ref mX, .int tS, .int tA, .int tW, .ref mA, .ref mB, .ref mW, .ref mL, .int lS])), (mI, .inl (cL, 1200, .inr (.inl u_r_18.1))), (mJ, .inl (cI, 4, .inl (k4i u_r_18.2.1 u_r_18.2.2.1 u_r_18.2.2.2.1 u_r_18.2.2.2.2.1))), (mS, .inl (cI, 4, .inl (k4i u_r_18.2.2.2.2.2.1 u_r_18.2.2.2.2.2.2.1 u_r_18.2.2.2.2.2.2.2.1 u_r_18.2.2.2.2.2.2.2.2)))] := hD
                    refine lv_goto (tgt := 251) hx hb dX8_reaches_235 (by decide) ?_
                    refine lv_iconst (v := 0) hx hb dX8_reaches_251 (by decide) ?_
                    refine kIret (u := (pL, lI, dP, 0, u_r_7.1, u_r_18.1, u_r_18.2.1, u_r_18.2.2.1, u_r_18.2.2.2.1, u_r_18.2.2.2.2.1, u_r_18.2.2.2.2.2.1, u_r_18.2.2.2.2.2.2.1, u_r_18.2.2.2.2.2.2.2.1, u_r_18.2.2.2.2.2.2.2.2)) hx hb hr rfl hlocks hS dX8_reaches_252 ?_ (hP.sub [0, 1, 2, 3] rfl) (hD.sub [0, 1, 2, 3] (by decide) rfl)
                    try dsimp only
                    try simp only [Int32.reduceToInt, Int64.reduceToInt, true_or, or_true, true_and, and_true]
                    repeat' apply And.intro
                    all_goals first | assumption | omega
                  · have t_225_18 := c_225_18
                    try simp only [kb_eq0, kb_ne0, lg_cmp_lt, lg_cmp_le, lg_cmp_gt, lg_cmp_ge, lg_cmp_eq] at t_225_18
                    try simp only [Int32.lt_iff_toInt_lt, Int32.le_iff_toInt_le, ← Int32.toInt_inj, Int64.lt_iff_toInt_lt, Int64.le_iff_toInt_le, ← Int64.toInt_inj, Int32.toInt_toInt64, Int32.reduceToInt, Int64.reduceToInt] at t_225_18
                    refine lv_iconst (v := 5) hx hb dX8_reaches_228 (by decide) ?_
                    refine kIret (u := (pL, lI, dP, cH, u_r_7.1, u_r_18.1, u_r_18.2.1, u_r_18.2.2.1, u_r_18.2.2.2.1, u_r_18.2.2.2.2.1, u_r_18.2.2.2.2.2.1, u_r_18.2.2.2.2.2.2.1, u_r_18.2.2.2.2.2.2.2.1, u_r_18.2.2.2.2.2.2.2.2)) hx hb hr rfl hlocks hS dX8_reaches_229 ?_ (hP.sub [0, 1, 2, 3] rfl) (hD.sub [0, 1, 2, 3] (by decide) rfl)
                    try dsimp only
                    try simp only [Int32.reduceToInt, Int64.reduceToInt, true_or, or_true, true_and, and_true]
                    repeat' apply And.intro
                    all_goals first | assumption | omega
              · refine lv_iload_n hx hb dX8_reaches_94 rfl (lv_at hl 3 rfl) ?_
                refine lv_sipush (v := 256) hx hb dX8_reaches_95 (by decide) ?_
                refine lv_isub hx hb dX8_reaches_98 ?_
                refine lv_topi (fun x_20 ex_20 => ?_)
                obtain rfl : x_20 = 1 := ex_20.trans (by decide)
                refine lv_istore (lv' := [(4, .int 1), (3, .int 0), (0, .ref m0), (1, .int a), (2, .int 257)]) hx hb dX8_reaches_99 hl (by decide) rfl (fun ls hl => ?_)
                refine lv_iload_n hx hb dX8_reaches_101 rfl (lv_at hl 3 rfl) ?_
                rcases ksw_24_27 a with hsw | rfl | rfl | rfl | rfl
                · refine lv_tableOut (tgt := 238) hx hb dX8_reaches_102 hsw (by decide) ?_
                  refine lv_aload_n hx hb dX8_reaches_238 rfl (lv_at hl 2 rfl) ?_
                  refine va_get (D := D) (ci := 8) (v := .ref mS) (C := RX8) (T := TX8) (N := 31) hx hb hts iX8_reaches_X8 hown hK hP 0 rfl rfl 16 (by decide) (hts (.fieldLink RX8 20 "TapeCalculatorModel" "stands" "[I") (List.mem_of_getElem? (i := 6) rfl)) (fun _ h9 => h9) rfl dX8_reaches_239 ?_
                  refine lv_iload hx hb dX8_reaches_242 (lv_at hl 0 rfl) ?_
                  refine lv_iconst (v := 0) hx hb dX8_reaches_244 (by decide) ?_
                  refine va_iast hx hb hK hP hD hS 3 0 rfl rfl (vp_in_iff.mpr (by decide)) dX8_reaches_245 (fun H locs hP hD hS => ?_)
                  rw [k4i_1] at hP hD
                  have hP : va_P D vwCl [(m0, .inr (8, [.ref mH, .int aM, .long aC, .int mM, .long mQ, .int oV, .int pL, .int lI, .int sW, .int dP, .int sT, .long aT, .int cH, .int u_r_7.1, .ref mI, .ref mJ, .ref mS, .ref mD, .int iH, .int aE, .int mN, .long sZ, .ref mX, .int tS, .int tA, .int tW, .ref mA, .ref mB, .ref mW, .ref mL, .int lS])), (mI, .inl (cL, 1200, .inr (.inl u_r_7.2.1))), (mJ, .inl (cI, 4, .inl (k4i u_r_7.2.2.1 u_r_7.2.2.2.1 u_r_7.2.2.2.2.1 u_r_7.2.2.2.2.2.1))), (mS, .inl (cI, 4, .inl (k4i u_r_7.2.2.2.2.2.2.1 0 u_r_7.2.2.2.2.2.2.2.2.1 u_r_7.2.2.2.2.2.2.2.2.2)))] H := hP
                  have hD : va_D A [(m0, .inr (8, [.ref mH, .int aM, .long aC, .int mM, .long mQ, .int oV, .int pL, .int lI, .int sW, .int dP, .int sT, .long aT, .int cH, .int u_r_7.1, .ref mI, .ref mJ, .ref mS, .ref mD, .int iH, .int aE, .int mN, .long sZ, .ref mX, .int tS, .int tA, .int tW, .ref mA, .ref mB, .ref mW, .ref mL, .int lS])), (mI, .inl (cL, 1200, .inr (.inl u_r_7.2.1))), (mJ, .inl (cI, 4, .inl (k4i u_r_7.2.2.1 u_r_7.2.2.2.1 u_r_7.2.2.2.2.1 u_r_7.2.2.2.2.2.1))), (mS, .inl (cI, 4, .inl (k4i u_r_7.2.2.2.2.2.2.1 0 u_r_7.2.2.2.2.2.2.2.2.1 u_r_7.2.2.2.2.2.2.2.2.2)))] := hD
                  refine lv_aload_n hx hb dX8_reaches_246 rfl (lv_at hl 2 rfl) ?_
                  refine lv_iconst (v := 0) hx hb dX8_reaches_247 (by decide) ?_
                  refine va_put (D := D) (ci := 8) (v := .int 0) (ty := .int) (C := RX8) (T := TX8) (N := 31) hx hb hts iX8_reaches_X8 tyX8 tyX8_ok nmX8 hown hK hP hD hS 0 rfl rfl 12 (by decide) (hts (.fieldLink RX8 43 "TapeCalculatorModel" "chosen" "I") (List.mem_of_getElem? (i := 1) rfl)) (fun _ h9 => h9) rfl (by decide +kernel) rfl rfl (Nat.le_of_ble_eq_true rfl) dX8_reaches_248 (fun H locs hP hD hS => ?_)
                  have hP : va_P D vwCl [(m0, .inr (8, [.ref mH, .int aM, .long aC, .int mM, .long mQ, .int oV, .int pL, .int lI, .int sW, .int dP, .int sT, .long aT, .int 0, .int u_r_7.1, .ref mI, .ref mJ, .ref mS, .ref mD, .int iH, .int aE, .int mN, .long sZ, .ref mX, .int tS, .int tA, .int tW, .ref mA, .ref mB, .ref mW, .ref mL, .int lS])), (mI, .inl (cL, 1200, .inr (.inl u_r_7.2.1))), (mJ, .inl (cI, 4, .inl (k4i u_r_7.2.2.1 u_r_7.2.2.2.1 u_r_7.2.2.2.2.1 u_r_7.2.2.2.2.2.1))), (mS, .inl (cI, 4, .inl (k4i u_r_7.2.2.2.2.2.2.1 0 u_r_7.2.2.2.2.2.2.2.2.1 u_r_7.2.2.2.2.2.2.2.2.2)))] H := hP
                  have hD : va_D A [(m0, .inr (8, [.ref mH, .int aM, .long aC, .int mM, .long mQ, .int oV, .int pL, .int lI, .int sW, .int dP, .int sT, .long aT, .int 0, .int u_r_7.1, .ref mI, .ref mJ, .ref mS, .ref mD, .int iH, .int aE, .int mN, .long sZ, .ref mX, .int tS, .int tA, .int tW, .ref mA, .ref mB, .ref mW, .ref mL, .int lS])), (mI, .inl (cL, 1200, .inr (.inl u_r_7.2.1))), (mJ, .inl (cI, 4, .inl (k4i u_r_7.2.2.1 u_r_7.2.2.2.1 u_r_7.2.2.2.2.1 u_r_7.2.2.2.2.2.1))), (mS, .inl (cI, 4, .inl (k4i u_r_7.2.2.2.2.2.2.1 0 u_r_7.2.2.2.2.2.2.2.2.1 u_r_7.2.2.2.2.2.2.2.2.2)))] := hD
                  refine lv_iconst (v := 0) hx hb dX8_reaches_251 (by decide) ?_
                  refine kIret (u := (pL, lI, dP, 0, u_r_7.1, u_r_7.2.1, u_r_7.2.2.1, u_r_7.2.2.2.1, u_r_7.2.2.2.2.1, u_r_7.2.2.2.2.2.1, u_r_7.2.2.2.2.2.2.1, 0, u_r_7.2.2.2.2.2.2.2.2.1, u_r_7.2.2.2.2.2.2.2.2.2)) hx hb hr rfl hlocks hS dX8_reaches_252 ?_ (hP.sub [0, 1, 2, 3] rfl) (hD.sub [0, 1, 2, 3] (by decide) rfl)
                  try dsimp only
                  try simp only [Int32.reduceToInt, Int64.reduceToInt, true_or, or_true, true_and, and_true]
                  repeat' apply And.intro
                  all_goals first | assumption | omega
                · refine lv_tableIn (tgt := 132) (off := 30) hx hb dX8_reaches_102 (by decide) (by decide) (by decide) (by decide) ?_
                  refine lv_aload_n hx hb dX8_reaches_132 rfl (lv_at hl 2 rfl) ?_
                  refine lv_iload_n hx hb dX8_reaches_133 rfl (lv_at hl 1 rfl) ?_
                  refine lv_if_eq (tgt := 142) hx hb dX8_reaches_134 (by decide) (fun c_134_20 => ?_) (fun c_134_20 => ?_)
                  · have t_134_20 := c_134_20
                    try simp only [kb_eq0, kb_ne0, lg_cmp_lt, lg_cmp_le, lg_cmp_gt, lg_cmp_ge, lg_cmp_eq] at t_134_20
                    try simp only [Int32.lt_iff_toInt_lt, Int32.le_iff_toInt_le, ← Int32.toInt_inj, Int64.lt_iff_toInt_lt, Int64.le_iff_toInt_le, ← Int64.toInt_inj, Int32.toInt_toInt64, Int32.reduceToInt, Int64.reduceToInt] at t_134_20
                    refine lv_iconst (v := 1) hx hb dX8_reaches_142 (by decide) ?_
                    refine lv_iload hx hb dX8_reaches_143 (lv_at hl 0 rfl) ?_
                    refine lv_iadd hx hb dX8_reaches_145 ?_
                    refine lv_topi (fun x_22 ex_22 => ?_)
                    obtain rfl : x_22 = 2 := ex_22.trans (by decide)
                    refine va_put (D := D) (ci := 8) (v := .int 2) (ty := .int) (C := RX8) (T := TX8) (N := 31) hx hb hts iX8_reaches_X8 tyX8 tyX8_ok nmX8 hown hK hP hD hS 0 rfl rfl 12 (by decide) (hts (.fieldLink RX8 43 "TapeCalculatorModel" "chosen" "I") (List.mem_of_getElem? (i := 1) rfl)) (fun _ h9 => h9) rfl (by decide +kernel) rfl rfl (Nat.le_of_ble_eq_true rfl) dX8_reaches_146 (fun H locs hP hD hS => ?_)
                    have hP : va_P D vwCl [(m0, .inr (8, [.ref mH, .int aM, .long aC, .int mM, .long mQ, .int oV, .int pL, .int lI, .int sW, .int dP, .int sT, .long aT, .int 2, .int u_r_7.1, .ref mI, .ref mJ, .ref mS, .ref mD, .int iH, .int aE, .int mN, .long sZ, .ref mX, .int tS, .int tA, .int tW, .ref mA, .ref mB, .ref mW, .ref mL, .int lS])), (mI, .inl (cL, 1200, .inr (.inl u_r_7.2.1))), (mJ, .inl (cI, 4, .inl (k4i u_r_7.2.2.1 u_r_7.2.2.2.1 u_r_7.2.2.2.2.1 u_r_7.2.2.2.2.2.1))), (mS, .inl (cI, 4, .inl (k4i u_r_7.2.2.2.2.2.2.1 u_r_7.2.2.2.2.2.2.2.1 u_r_7.2.2.2.2.2.2.2.2.1 u_r_7.2.2.2.2.2.2.2.2.2)))] H := hP
                    have hD : va_D A [(m0, .inr (8, [.ref mH, .int aM, .long aC, .int mM, .long mQ, .int oV, .int pL, .int lI, .int sW, .int dP, .int sT, .long aT, .int 2, .int u_r_7.1, .ref mI, .ref mJ, .ref mS, .ref mD, .int iH, .int aE, .int mN, .long sZ, .ref mX, .int tS, .int tA, .int tW, .ref mA, .ref mB, .ref mW, .ref mL, .int lS])), (mI, .inl (cL, 1200, .inr (.inl u_r_7.2.1))), (mJ, .inl (cI, 4, .inl (k4i u_r_7.2.2.1 u_r_7.2.2.2.1 u_r_7.2.2.2.2.1 u_r_7.2.2.2.2.2.1))), (mS, .inl (cI, 4, .inl (k4i u_r_7.2.2.2.2.2.2.1 u_r_7.2.2.2.2.2.2.2.1 u_r_7.2.2.2.2.2.2.2.2.1 u_r_7.2.2.2.2.2.2.2.2.2)))] := hD
                    refine lv_goto (tgt := 251) hx hb dX8_reaches_149 (by decide) ?_
                    refine lv_iconst (v := 0) hx hb dX8_reaches_251 (by decide) ?_
                    refine kIret (u := (pL, lI, dP, 2, u_r_7.1, u_r_7.2.1, u_r_7.2.2.1, u_r_7.2.2.2.1, u_r_7.2.2.2.2.1, u_r_7.2.2.2.2.2.1, u_r_7.2.2.2.2.2.2.1, u_r_7.2.2.2.2.2.2.2.1, u_r_7.2.2.2.2.2.2.2.2.1, u_r_7.2.2.2.2.2.2.2.2.2)) hx hb hr rfl hlocks hS dX8_reaches_252 ?_ (hP.sub [0, 1, 2, 3] rfl) (hD.sub [0, 1, 2, 3] (by decide) rfl)
                    try dsimp only
                    try simp only [Int32.reduceToInt, Int64.reduceToInt, true_or, or_true, true_and, and_true]
                    repeat' apply And.intro
                    all_goals first | assumption | omega
                  · exact absurd (by decide) c_134_20
                · refine lv_tableIn (tgt := 152) (off := 50) hx hb dX8_reaches_102 (by decide) (by decide) (by decide) (by decide) ?_
                  refine lv_aload_n hx hb dX8_reaches_152 rfl (lv_at hl 2 rfl) ?_
                  refine lv_iconst (v := 5) hx hb dX8_reaches_153 (by decide) ?_
                  refine lv_iload hx hb dX8_reaches_154 (lv_at hl 0 rfl) ?_
                  refine lv_iadd hx hb dX8_reaches_156 ?_
                  refine lv_topi (fun x_23 ex_23 => ?_)
                  obtain rfl : x_23 = 6 := ex_23.trans (by decide)
                  refine va_put (D := D) (ci := 8) (v := .int 6) (ty := .int) (C := RX8) (T := TX8) (N := 31) hx hb hts iX8_reaches_X8 tyX8 tyX8_ok nmX8 hown hK hP hD hS 0 rfl rfl 12 (by decide) (hts (.fieldLink RX8 43 "TapeCalculatorModel" "chosen" "I") (List.mem_of_getElem? (i := 1) rfl)) (fun _ h9 => h9) rfl (by decide +kernel) rfl rfl (Nat.le_of_ble_eq_true rfl) dX8_reaches_157 (fun H locs hP hD hS => ?_)
                  have hP : va_P D vwCl [(m0, .inr (8, [.ref mH, .int aM, .long aC, .int mM, .long mQ, .int oV, .int pL, .int lI, .int sW, .int dP, .int sT, .long aT, .int 6, .int u_r_7.1, .ref mI, .ref mJ, .ref mS, .ref mD, .int iH, .int aE, .int mN, .long sZ, .ref mX, .int tS, .int tA, .int tW, .ref mA, .ref mB, .ref mW, .ref mL, .int lS])), (mI, .inl (cL, 1200, .inr (.inl u_r_7.2.1))), (mJ, .inl (cI, 4, .inl (k4i u_r_7.2.2.1 u_r_7.2.2.2.1 u_r_7.2.2.2.2.1 u_r_7.2.2.2.2.2.1))), (mS, .inl (cI, 4, .inl (k4i u_r_7.2.2.2.2.2.2.1 u_r_7.2.2.2.2.2.2.2.1 u_r_7.2.2.2.2.2.2.2.2.1 u_r_7.2.2.2.2.2.2.2.2.2)))] H := hP
                  have hD : va_D A [(m0, .inr (8, [.ref mH, .int aM, .long aC, .int mM, .long mQ, .int oV, .int pL, .int lI, .int sW, .int dP, .int sT, .long aT, .int 6, .int u_r_7.1, .ref mI, .ref mJ, .ref mS, .ref mD, .int iH, .int aE, .int mN, .long sZ, .ref mX, .int tS, .int tA, .int tW, .ref mA, .ref mB, .ref mW, .ref mL, .int lS])), (mI, .inl (cL, 1200, .inr (.inl u_r_7.2.1))), (mJ, .inl (cI, 4, .inl (k4i u_r_7.2.2.1 u_r_7.2.2.2.1 u_r_7.2.2.2.2.1 u_r_7.2.2.2.2.2.1))), (mS, .inl (cI, 4, .inl (k4i u_r_7.2.2.2.2.2.2.1 u_r_7.2.2.2.2.2.2.2.1 u_r_7.2.2.2.2.2.2.2.2.1 u_r_7.2.2.2.2.2.2.2.2.2)))] := hD
                  refine lv_goto (tgt := 251) hx hb dX8_reaches_160 (by decide) ?_
                  refine lv_iconst (v := 0) hx hb dX8_reaches_251 (by decide) ?_
                  refine kIret (u := (pL, lI, dP, 6, u_r_7.1, u_r_7.2.1, u_r_7.2.2.1, u_r_7.2.2.2.1, u_r_7.2.2.2.2.1, u_r_7.2.2.2.2.2.1, u_r_7.2.2.2.2.2.2.1, u_r_7.2.2.2.2.2.2.2.1, u_r_7.2.2.2.2.2.2.2.2.1, u_r_7.2.2.2.2.2.2.2.2.2)) hx hb hr rfl hlocks hS dX8_reaches_252 ?_ (hP.sub [0, 1, 2, 3] rfl) (hD.sub [0, 1, 2, 3] (by decide) rfl)
                  try dsimp only
                  try simp only [Int32.reduceToInt, Int64.reduceToInt, true_or, or_true, true_and, and_true]
                  repeat' apply And.intro
                  all_goals first | assumption | omega
                · refine lv_tableIn (tgt := 163) (off := 61) hx hb dX8_reaches_102 (by decide) (by decide) (by decide) (by decide) ?_
                  refine lv_iload_n hx hb dX8_reaches_163 rfl (lv_at hl 1 rfl) ?_
                  refine lv_if_ne (tgt := 181) hx hb dX8_reaches_164 (by decide) (fun c_164_23 => ?_) (fun c_164_23 => ?_)
                  · exact absurd (by decide) c_164_23
                  · have t_164_23 := c_164_23
                    try simp only [kb_eq0, kb_ne0, lg_cmp_lt, lg_cmp_le, lg_cmp_gt, lg_cmp_ge, lg_cmp_eq] at t_164_23
                    try simp only [Int32.lt_iff_toInt_lt, Int32.le_iff_toInt_le, ← Int32.toInt_inj, Int64.lt_iff_toInt_lt, Int64.le_iff_toInt_le, ← Int64.toInt_inj, Int32.toInt_toInt64, Int32.reduceToInt, Int64.reduceToInt] at t_164_23
                    refine lv_aload_n hx hb dX8_reaches_167 rfl (lv_at hl 2 rfl) ?_
                    refine va_get (D := D) (ci := 8) (v := .ref mJ) (C := RX8) (T := TX8) (N := 31) hx hb hts iX8_reaches_X8 hown hK hP 0 rfl rfl 15 (by decide) (hts (.fieldLink RX8 17 "TapeCalculatorModel" "items" "[I") (List.mem_of_getElem? (i := 5) rfl)) (fun _ h9 => h9) rfl dX8_reaches_168 ?_
                    refine lv_iload hx hb dX8_reaches_171 (lv_at hl 0 rfl) ?_
                    refine lv_aload_n hx hb dX8_reaches_173 rfl (lv_at hl 2 rfl) ?_
                    refine va_get (D := D) (ci := 8) (v := .ref mS) (C := RX8) (T := TX8) (N := 31) hx hb hts iX8_reaches_X8 hown hK hP 0 rfl rfl 16 (by decide) (hts (.fieldLink RX8 20 "TapeCalculatorModel" "stands" "[I") (List.mem_of_getElem? (i := 6) rfl)) (fun _ h9 => h9) rfl dX8_reaches_174 ?_
                    refine lv_iload hx hb dX8_reaches_177 (lv_at hl 0 rfl) ?_
                    refine va_iald hx hb hK hP 3 0 rfl rfl (vp_in_iff.mpr (by decide)) dX8_reaches_179 ?_
                    refine lv_topi (fun x_25 ex_25 => ?_)
                    obtain rfl : u_r_7.2.2.2.2.2.2.2.1 = x_25 := ex_25.symm
                    refine va_iast hx hb hK hP hD hS 2 0 rfl rfl (vp_in_iff.mpr (by decide)) dX8_reaches_180 (fun H locs hP hD hS => ?_)
                    rw [k4i_1] at hP hD
                    have hP : va_P D vwCl [(m0, .inr (8, [.ref mH, .int aM, .long aC, .int mM, .long mQ, .int oV, .int pL, .int lI, .int sW, .int dP, .int sT, .long aT, .int cH, .int u_r_7.1, .ref mI, .ref mJ, .ref mS, .ref mD, .int iH, .int aE, .int mN, .long sZ, .ref mX, .int tS, .int tA, .int tW, .ref mA, .ref mB, .ref mW, .ref mL, .int lS])), (mI, .inl (cL, 1200, .inr (.inl u_r_7.2.1))), (mJ, .inl (cI, 4, .inl (k4i u_r_7.2.2.1 (u_r_7.2.2.2.2.2.2.2.1) u_r_7.2.2.2.2.1 u_r_7.2.2.2.2.2.1))), (mS, .inl (cI, 4, .inl (k4i u_r_7.2.2.2.2.2.2.1 u_r_7.2.2.2.2.2.2.2.1 u_r_7.2.2.2.2.2.2.2.2.1 u_r_7.2.2.2.2.2.2.2.2.2)))] H := hP
                    have hD : va_D A [(m0, .inr (8, [.ref mH, .int aM, .long aC, .int mM, .long mQ, .int oV, .int pL, .int lI, .int sW, .int dP, .int sT, .long aT, .int cH, .int u_r_7.1, .ref mI, .ref mJ, .ref mS, .ref mD, .int iH, .int aE, .int mN, .long sZ, .ref mX, .int tS, .int tA, .int tW, .ref mA, .ref mB, .ref mW, .ref mL, .int lS])), (mI, .inl (cL, 1200, .inr (.inl u_r_7.2.1))), (mJ, .inl (cI, 4, .inl (k4i u_r_7.2.2.1 (u_r_7.2.2.2.2.2.2.2.1) u_r_7.2.2.2.2.1 u_r_7.2.2.2.2.2.1))), (mS, .inl (cI, 4, .inl (k4i u_r_7.2.2.2.2.2.2.1 u_r_7.2.2.2.2.2.2.2.1 u_r_7.2.2.2.2.2.2.2.2.1 u_r_7.2.2.2.2.2.2.2.2.2)))] := hD
                    refine lv_aload_n hx hb dX8_reaches_181 rfl (lv_at hl 2 rfl) ?_
                    refine lv_iload_n hx hb dX8_reaches_182 rfl (lv_at hl 1 rfl) ?_
                    refine lv_if_eq (tgt := 191) hx hb dX8_reaches_183 (by decide) (fun c_183_25 => ?_) (fun c_183_25 => ?_)
                    · have t_183_25 := c_183_25
                      try simp only [kb_eq0, kb_ne0, lg_cmp_lt, lg_cmp_le, lg_cmp_gt, lg_cmp_ge, lg_cmp_eq] at t_183_25
                      try simp only [Int32.lt_iff_toInt_lt, Int32.le_iff_toInt_le, ← Int32.toInt_inj, Int64.lt_iff_toInt_lt, Int64.le_iff_toInt_le, ← Int64.toInt_inj, Int32.toInt_toInt64, Int32.reduceToInt, Int64.reduceToInt] at t_183_25
                      refine lv_bipush (v := 9) hx hb dX8_reaches_191 (by decide) ?_
                      refine lv_iload hx hb dX8_reaches_193 (lv_at hl 0 rfl) ?_
                      refine lv_iadd hx hb dX8_reaches_195 ?_
                      refine lv_topi (fun x_27 ex_27 => ?_)
                      obtain rfl : x_27 = 10 := ex_27.trans (by decide)
                      refine va_put (D := D) (ci := 8) (v := .int 10) (ty := .int) (C := RX8) (T := TX8) (N := 31) hx hb hts iX8_reaches_X8 tyX8 tyX8_ok nmX8 hown hK hP hD hS 0 rfl rfl 12 (by decide) (hts (.fieldLink RX8 43 "TapeCalculatorModel" "chosen" "I") (List.mem_of_getElem? (i := 1) rfl)) (fun _ h9 => h9) rfl (by decide +kernel) rfl rfl (Nat.le_of_ble_eq_true rfl) dX8_reaches_196 (fun H locs hP hD hS => ?_)
                      have hP : va_P D vwCl [(m0, .inr (8, [.ref mH, .int aM, .long aC, .int mM, .long mQ, .int oV, .int pL, .int lI, .int sW, .int dP, .int sT, .long aT, .int 10, .int u_r_7.1, .ref mI, .ref mJ, .ref mS, .ref mD, .int iH, .int aE, .int mN, .long sZ, .ref mX, .int tS, .int tA, .int tW, .ref mA, .ref mB, .ref mW, .ref mL, .int lS])), (mI, .inl (cL, 1200, .inr (.inl u_r_7.2.1))), (mJ, .inl (cI, 4, .inl (k4i u_r_7.2.2.1 (u_r_7.2.2.2.2.2.2.2.1) u_r_7.2.2.2.2.1 u_r_7.2.2.2.2.2.1))), (mS, .inl (cI, 4, .inl (k4i u_r_7.2.2.2.2.2.2.1 u_r_7.2.2.2.2.2.2.2.1 u_r_7.2.2.2.2.2.2.2.2.1 u_r_7.2.2.2.2.2.2.2.2.2)))] H := hP
                      have hD : va_D A [(m0, .inr (8, [.ref mH, .int aM, .long aC, .int mM, .long mQ, .int oV, .int pL, .int lI, .int sW, .int dP, .int sT, .long aT, .int 10, .int u_r_7.1, .ref mI, .ref mJ, .ref mS, .ref mD, .int iH, .int aE, .int mN, .long sZ, .ref mX, .int tS, .int tA, .int tW, .ref mA, .ref mB, .ref mW, .ref mL, .int lS])), (mI, .inl (cL, 1200, .inr (.inl u_r_7.2.1))), (mJ, .inl (cI, 4, .inl (k4i u_r_7.2.2.1 (u_r_7.2.2.2.2.2.2.2.1) u_r_7.2.2.2.2.1 u_r_7.2.2.2.2.2.1))), (mS, .inl (cI, 4, .inl (k4i u_r_7.2.2.2.2.2.2.1 u_r_7.2.2.2.2.2.2.2.1 u_r_7.2.2.2.2.2.2.2.2.1 u_r_7.2.2.2.2.2.2.2.2.2)))] := hD
                      refine lv_goto (tgt := 251) hx hb dX8_reaches_199 (by decide) ?_
                      refine lv_iconst (v := 0) hx hb dX8_reaches_251 (by decide) ?_
                      refine kIret (u := (pL, lI, dP, 10, u_r_7.1, u_r_7.2.1, u_r_7.2.2.1, (u_r_7.2.2.2.2.2.2.2.1), u_r_7.2.2.2.2.1, u_r_7.2.2.2.2.2.1, u_r_7.2.2.2.2.2.2.1, u_r_7.2.2.2.2.2.2.2.1, u_r_7.2.2.2.2.2.2.2.2.1, u_r_7.2.2.2.2.2.2.2.2.2)) hx hb hr rfl hlocks hS dX8_reaches_252 ?_ (hP.sub [0, 1, 2, 3] rfl) (hD.sub [0, 1, 2, 3] (by decide) rfl)
                      try dsimp only
                      try simp only [Int32.reduceToInt, Int64.reduceToInt, true_or, or_true, true_and, and_true]
                      repeat' apply And.intro
                      all_goals first | assumption | omega
                    · exact absurd (by decide) c_183_25
                · refine lv_tableIn (tgt := 202) (off := 100) hx hb dX8_reaches_102 (by decide) (by decide) (by decide) (by decide) ?_
                  refine lv_aload_n hx hb dX8_reaches_202 rfl (lv_at hl 2 rfl) ?_
                  refine va_get (D := D) (ci := 8) (v := .ref mJ) (C := RX8) (T := TX8) (N := 31) hx hb hts iX8_reaches_X8 hown hK hP 0 rfl rfl 15 (by decide) (hts (.fieldLink RX8 17 "TapeCalculatorModel" "items" "[I") (List.mem_of_getElem? (i := 5) rfl)) (fun _ h9 => h9) rfl dX8_reaches_203 ?_
                  refine lv_iload hx hb dX8_reaches_206 (lv_at hl 0 rfl) ?_
                  refine lv_aload_n hx hb dX8_reaches_208 rfl (lv_at hl 2 rfl) ?_
                  refine va_get (D := D) (ci := 8) (v := .ref mS) (C := RX8) (T := TX8) (N := 31) hx hb hts iX8_reaches_X8 hown hK hP 0 rfl rfl 16 (by decide) (hts (.fieldLink RX8 20 "TapeCalculatorModel" "stands" "[I") (List.mem_of_getElem? (i := 6) rfl)) (fun _ h9 => h9) rfl dX8_reaches_209 ?_
                  refine lv_iload hx hb dX8_reaches_212 (lv_at hl 0 rfl) ?_
                  refine va_iald hx hb hK hP 3 0 rfl rfl (vp_in_iff.mpr (by decide)) dX8_reaches_214 ?_
                  refine lv_topi (fun x_28 ex_28 => ?_)
                  obtain rfl : u_r_7.2.2.2.2.2.2.2.1 = x_28 := ex_28.symm
                  refine va_iast hx hb hK hP hD hS 2 0 rfl rfl (vp_in_iff.mpr (by decide)) dX8_reaches_215 (fun H locs hP hD hS => ?_)
                  rw [k4i_1] at hP hD
                  have hP : va_P D vwCl [(m0, .inr (8, [.ref mH, .int aM, .long aC, .int mM, .long mQ, .int oV, .int pL, .int lI, .int sW, .int dP, .int sT, .long aT, .int cH, .int u_r_7.1, .ref mI, .ref mJ, .ref mS, .ref mD, .int iH, .int aE, .int mN, .long sZ, .ref mX, .int tS, .int tA, .int tW, .ref mA, .ref mB, .ref mW, .ref mL, .int lS])), (mI, .inl (cL, 1200, .inr (.inl u_r_7.2.1))), (mJ, .inl (cI, 4, .inl (k4i u_r_7.2.2.1 (u_r_7.2.2.2.2.2.2.2.1) u_r_7.2.2.2.2.1 u_r_7.2.2.2.2.2.1))), (mS, .inl (cI, 4, .inl (k4i u_r_7.2.2.2.2.2.2.1 u_r_7.2.2.2.2.2.2.2.1 u_r_7.2.2.2.2.2.2.2.2.1 u_r_7.2.2.2.2.2.2.2.2.2)))] H := hP
                  have hD : va_D A [(m0, .inr (8, [.ref mH, .int aM, .long aC, .int mM, .long mQ, .int oV, .int pL, .int lI, .int sW, .int dP, .int sT, .long aT, .int cH, .int u_r_7.1, .ref mI, .ref mJ, .ref mS, .ref mD, .int iH, .int aE, .int mN, .long sZ, .ref mX, .int tS, .int tA, .int tW, .ref mA, .ref mB, .ref mW, .ref mL, .int lS])), (mI, .inl (cL, 1200, .inr (.inl u_r_7.2.1))), (mJ, .inl (cI, 4, .inl (k4i u_r_7.2.2.1 (u_r_7.2.2.2.2.2.2.2.1) u_r_7.2.2.2.2.1 u_r_7.2.2.2.2.2.1))), (mS, .inl (cI, 4, .inl (k4i u_r_7.2.2.2.2.2.2.1 u_r_7.2.2.2.2.2.2.2.1 u_r_7.2.2.2.2.2.2.2.2.1 u_r_7.2.2.2.2.2.2.2.2.2)))] := hD
                  refine lv_aload_n hx hb dX8_reaches_216 rfl (lv_at hl 2 rfl) ?_
                  refine lv_iload hx hb dX8_reaches_217 (lv_at hl 0 rfl) ?_
                  refine lv_ldc2 (v := (-3)) hx hb hown (hts (.constantLong RX8 113 (-3)) (List.mem_of_getElem? (i := 7) rfl)) dX8_reaches_219 ?_
                  refine kCallI (wr := []) (va_runV (As := [.int 1, .long (-3)]) (rest := []) ⟨hx, hb, hml, hown, hts⟩ (q_puts l D cI cL cB cZ cT _ m0 mH mI mJ mS mD mX mA mB mW mL aM aC mM mQ oV pL lI sW dP sT aT cH (u_r_7.1) iH aE mN sZ tS tA tW lS (u_r_7.2.1) (u_r_7.2.2.1) (u_r_7.2.2.2.2.2.2.2.1) (u_r_7.2.2.2.2.1) (u_r_7.2.2.2.2.2.1) (u_r_7.2.2.2.2.2.2.1) (u_r_7.2.2.2.2.2.2.2.1) (u_r_7.2.2.2.2.2.2.2.2.1) (u_r_7.2.2.2.2.2.2.2.2.2) 1 (-3) (by omega) (by decide)) (cwV 2 hts gX8_reaches_X8_puts rfl rfl rfl (by decide +kernel) ⟨Nat.le_of_ble_eq_true rfl, Nat.le_of_ble_eq_true rfl⟩) (kPreV hG hP hD [0, 1, 2, 3] rfl (by decide) 0 8 rfl rfl rfl) rfl rfl hl.1 rfl (lv_room (Nat.le_of_ble_eq_true rfl)) dX8_reaches_222 ⟨Nat.le_of_ble_eq_true rfl, Nat.le_of_ble_eq_true rfl⟩) hA hP hD hS [0, 1, 2, 3] [] rfl rfl (by decide) (by decide) (fun r_29 u_r_29 H locs wr_29 hP hD hS => ?_)
                  have hP : va_P D vwCl [(m0, .inr (8, [.ref mH, .int aM, .long aC, .int mM, .long mQ, .int oV, .int pL, .int lI, .int sW, .int dP, .int sT, .long aT, .int cH, .int u_r_7.1, .ref mI, .ref mJ, .ref mS, .ref mD, .int iH, .int aE, .int mN, .long sZ, .ref mX, .int tS, .int tA, .int tW, .ref mA, .ref mB, .ref mW, .ref mL, .int lS])), (mI, .inl (cL, 1200, .inr (.inl u_r_29.1))), (mJ, .inl (cI, 4, .inl (k4i u_r_29.2.1 u_r_29.2.2.1 u_r_29.2.2.2.1 u_r_29.2.2.2.2.1))), (mS, .inl (cI, 4, .inl (k4i u_r_29.2.2.2.2.2.1 u_r_29.2.2.2.2.2.2.1 u_r_29.2.2.2.2.2.2.2.1 u_r_29.2.2.2.2.2.2.2.2)))] H := hP
                  have hD : va_D A [(m0, .inr (8, [.ref mH, .int aM, .long aC, .int mM, .long mQ, .int oV, .int pL, .int lI, .int sW, .int dP, .int sT, .long aT, .int cH, .int u_r_7.1, .ref mI, .ref mJ, .ref mS, .ref mD, .int iH, .int aE, .int mN, .long sZ, .ref mX, .int tS, .int tA, .int tW, .ref mA, .ref mB, .ref mW, .ref mL, .int lS])), (mI, .inl (cL, 1200, .inr (.inl u_r_29.1))), (mJ, .inl (cI, 4, .inl (k4i u_r_29.2.1 u_r_29.2.2.1 u_r_29.2.2.2.1 u_r_29.2.2.2.2.1))), (mS, .inl (cI, 4, .inl (k4i u_r_29.2.2.2.2.2.1 u_r_29.2.2.2.2.2.2.1 u_r_29.2.2.2.2.2.2.2.1 u_r_29.2.2.2.2.2.2.2.2)))] := hD
                  try dsimp only at wr_29
                  try simp only [Int32.reduceToInt, Int64.reduceToInt] at wr_29
                  refine lv_if_ne (tgt := 230) hx hb dX8_reaches_225 (by decide) (fun c_225_29 => ?_) (fun c_225_29 => ?_)
                  · have t_225_29 := c_225_29
                    try simp only [kb_eq0, kb_ne0, lg_cmp_lt, lg_cmp_le, lg_cmp_gt, lg_cmp_ge, lg_cmp_eq] at t_225_29
                    try simp only [Int32.lt_iff_toInt_lt, Int32.le_iff_toInt_le, ← Int32.toInt_inj, Int64.lt_iff_toInt_lt, Int64.le_iff_toInt_le, ← Int64.toInt_inj, Int32.toInt_toInt64, Int32.reduceToInt, Int64.reduceToInt] at t_225_29
                    refine lv_aload_n hx hb dX8_reaches_230 rfl (lv_at hl 2 rfl) ?_
                    refine lv_iconst (v := 0) hx hb dX8_reaches_231 (by decide) ?_
                    refine va_put (D := D) (ci := 8) (v := .int 0) (ty := .int) (C := RX8) (T := TX8) (N := 31) hx hb hts iX8_reaches_X8 tyX8 tyX8_ok nmX8 hown hK hP hD hS 0 rfl rfl 12 (by decide) (hts (.fieldLink RX8 43 "TapeCalculatorModel" "chosen" "I") (List.mem_of_getElem? (i := 1) rfl)) (fun _ h9 => h9) rfl (by decide +kernel) rfl rfl (Nat.le_of_ble_eq_true rfl) dX8_reaches_232 (fun H locs hP hD hS => ?_)
                    have hP : va_P D vwCl [(m0, .inr (8, [.ref mH, .int aM, .long aC, .int mM, .long mQ, .int oV, .int pL, .int lI, .int sW, .int dP, .int sT, .long aT, .int 0, .int u_r_7.1, .ref mI, .ref mJ, .ref mS, .ref mD, .int iH, .int aE, .int mN, .long sZ, .ref mX, .int tS, .int tA, .int tW, .ref mA, .ref mB, .ref mW, .ref mL, .int lS])), (mI, .inl (cL, 1200, .inr (.inl u_r_29.1))), (mJ, .inl (cI, 4, .inl (k4i u_r_29.2.1 u_r_29.2.2.1 u_r_29.2.2.2.1 u_r_29.2.2.2.2.1))), (mS, .inl (cI, 4, .inl (k4i u_r_29.2.2.2.2.2.1 u_r_29.2.2.2.2.2.2.1 u_r_29.2.2.2.2.2.2.2.1 u_r_29.2.2.2.2.2.2.2.2)))] H := hP
                    have hD : va_D A [(m0, .inr (8, [.ref mH, .int aM, .long aC, .int mM, .long mQ, .int oV, .int pL, .int lI, .int sW, .int dP, .int sT, .long aT, .int 0, .int u_r_7.1, .ref mI, .ref mJ, .ref mS, .ref mD, .int iH, .int aE, .int mN, .long sZ, .ref mX, .int tS, .int tA, .int tW, .ref mA, .ref mB, .ref mW, .ref mL, .int lS])), (mI, .inl (cL, 1200, .inr (.inl u_r_29.1))), (mJ, .inl (cI, 4, .inl (k4i u_r_29.2.1 u_r_29.2.2.1 u_r_29.2.2.2.1 u_r_29.2.2.2.2.1))), (mS, .inl (cI, 4, .inl (k4i u_r_29.2.2.2.2.2.1 u_r_29.2.2.2.2.2.2.1 u_r_29.2.2.2.2.2.2.2.1 u_r_29.2.2.2.2.2.2.2.2)))] := hD
                    refine lv_goto (tgt := 251) hx hb dX8_reaches_235 (by decide) ?_
                    refine lv_iconst (v := 0) hx hb dX8_reaches_251 (by decide) ?_
                    refine kIret (u := (pL, lI, dP, 0, u_r_7.1, u_r_29.1, u_r_29.2.1, u_r_29.2.2.1, u_r_29.2.2.2.1, u_r_29.2.2.2.2.1, u_r_29.2.2.2.2.2.1, u_r_29.2.2.2.2.2.2.1, u_r_29.2.2.2.2.2.2.2.1, u_r_29.2.2.2.2.2.2.2.2)) hx hb hr rfl hlocks hS dX8_reaches_252 ?_ (hP.sub [0, 1, 2, 3] rfl) (hD.sub [0, 1, 2, 3] (by decide) rfl)
                    try dsimp only
                    try simp only [Int32.reduceToInt, Int64.reduceToInt, true_or, or_true, true_and, and_true]
                    repeat' apply And.intro
                    all_goals first | assumption | omega
                  · have t_225_29 := c_225_29
                    try simp only [kb_eq0, kb_ne0, lg_cmp_lt, lg_cmp_le, lg_cmp_gt, lg_cmp_ge, lg_cmp_eq] at t_225_29
                    try simp only [Int32.lt_iff_toInt_lt, Int32.le_iff_toInt_le, ← Int32.toInt_inj, Int64.lt_iff_toInt_lt, Int64.le_iff_toInt_le, ← Int64.toInt_inj, Int32.toInt_toInt64, Int32.reduceToInt, Int64.reduceToInt] at t_225_29
                    refine lv_iconst (v := 5) hx hb dX8_reaches_228 (by decide) ?_
                    refine kIret (u := (pL, lI, dP, cH, u_r_7.1, u_r_29.1, u_r_29.2.1, u_r_29.2.2.1, u_r_29.2.2.2.1, u_r_29.2.2.2.2.1, u_r_29.2.2.2.2.2.1, u_r_29.2.2.2.2.2.2.1, u_r_29.2.2.2.2.2.2.2.1, u_r_29.2.2.2.2.2.2.2.2)) hx hb hr rfl hlocks hS dX8_reaches_229 ?_ (hP.sub [0, 1, 2, 3] rfl) (hD.sub [0, 1, 2, 3] (by decide) rfl)
                    try dsimp only
                    try simp only [Int32.reduceToInt, Int64.reduceToInt, true_or, or_true, true_and, and_true]
                    repeat' apply And.intro
                    all_goals first | assumption | omega
              · refine lv_iload_n hx hb dX8_reaches_94 rfl (lv_at hl 3 rfl) ?_
                refine lv_sipush (v := 256) hx hb dX8_reaches_95 (by decide) ?_
                refine lv_isub hx hb dX8_reaches_98 ?_
                refine lv_topi (fun x_31 ex_31 => ?_)
                obtain rfl : x_31 = 2 := ex_31.trans (by decide)
                refine lv_istore (lv' := [(4, .int 2), (3, .int 0), (0, .ref m0), (1, .int a), (2, .int 258)]) hx hb dX8_reaches_99 hl (by decide) rfl (fun ls hl => ?_)
                refine lv_iload_n hx hb dX8_reaches_101 rfl (lv_at hl 3 rfl) ?_
                rcases ksw_24_27 a with hsw | rfl | rfl | rfl | rfl
                · refine lv_tableOut (tgt := 238) hx hb dX8_reaches_102 hsw (by decide) ?_
                  refine lv_aload_n hx hb dX8_reaches_238 rfl (lv_at hl 2 rfl) ?_
                  refine va_get (D := D) (ci := 8) (v := .ref mS) (C := RX8) (T := TX8) (N := 31) hx hb hts iX8_reaches_X8 hown hK hP 0 rfl rfl 16 (by decide) (hts (.fieldLink RX8 20 "TapeCalculatorModel" "stands" "[I") (List.mem_of_getElem? (i := 6) rfl)) (fun _ h9 => h9) rfl dX8_reaches_239 ?_
                  refine lv_iload hx hb dX8_reaches_242 (lv_at hl 0 rfl) ?_
                  refine lv_iconst (v := 0) hx hb dX8_reaches_244 (by decide) ?_
                  refine va_iast hx hb hK hP hD hS 3 0 rfl rfl (vp_in_iff.mpr (by decide)) dX8_reaches_245 (fun H locs hP hD hS => ?_)
                  rw [k4i_2] at hP hD
                  have hP : va_P D vwCl [(m0, .inr (8, [.ref mH, .int aM, .long aC, .int mM, .long mQ, .int oV, .int pL, .int lI, .int sW, .int dP, .int sT, .long aT, .int cH, .int u_r_7.1, .ref mI, .ref mJ, .ref mS, .ref mD, .int iH, .int aE, .int mN, .long sZ, .ref mX, .int tS, .int tA, .int tW, .ref mA, .ref mB, .ref mW, .ref mL, .int lS])), (mI, .inl (cL, 1200, .inr (.inl u_r_7.2.1))), (mJ, .inl (cI, 4, .inl (k4i u_r_7.2.2.1 u_r_7.2.2.2.1 u_r_7.2.2.2.2.1 u_r_7.2.2.2.2.2.1))), (mS, .inl (cI, 4, .inl (k4i u_r_7.2.2.2.2.2.2.1 u_r_7.2.2.2.2.2.2.2.1 0 u_r_7.2.2.2.2.2.2.2.2.2)))] H := hP
                  have hD : va_D A [(m0, .inr (8, [.ref mH, .int aM, .long aC, .int mM, .long mQ, .int oV, .int pL, .int lI, .int sW, .int dP, .int sT, .long aT, .int cH, .int u_r_7.1, .ref mI, .ref mJ, .ref mS, .ref mD, .int iH, .int aE, .int mN, .long sZ, .ref mX, .int tS, .int tA, .int tW, .ref mA, .ref mB, .ref mW, .ref mL, .int lS])), (mI, .inl (cL, 1200, .inr (.inl u_r_7.2.1))), (mJ, .inl (cI, 4, .inl (k4i u_r_7.2.2.1 u_r_7.2.2.2.1 u_r_7.2.2.2.2.1 u_r_7.2.2.2.2.2.1))), (mS, .inl (cI, 4, .inl (k4i u_r_7.2.2.2.2.2.2.1 u_r_7.2.2.2.2.2.2.2.1 0 u_r_7.2.2.2.2.2.2.2.2.2)))] := hD
                  refine lv_aload_n hx hb dX8_reaches_246 rfl (lv_at hl 2 rfl) ?_
                  refine lv_iconst (v := 0) hx hb dX8_reaches_247 (by decide) ?_
                  refine va_put (D := D) (ci := 8) (v := .int 0) (ty := .int) (C := RX8) (T := TX8) (N := 31) hx hb hts iX8_reaches_X8 tyX8 tyX8_ok nmX8 hown hK hP hD hS 0 rfl rfl 12 (by decide) (hts (.fieldLink RX8 43 "TapeCalculatorModel" "chosen" "I") (List.mem_of_getElem? (i := 1) rfl)) (fun _ h9 => h9) rfl (by decide +kernel) rfl rfl (Nat.le_of_ble_eq_true rfl) dX8_reaches_248 (fun H locs hP hD hS => ?_)
                  have hP : va_P D vwCl [(m0, .inr (8, [.ref mH, .int aM, .long aC, .int mM, .long mQ, .int oV, .int pL, .int lI, .int sW, .int dP, .int sT, .long aT, .int 0, .int u_r_7.1, .ref mI, .ref mJ, .ref mS, .ref mD, .int iH, .int aE, .int mN, .long sZ, .ref mX, .int tS, .int tA, .int tW, .ref mA, .ref mB, .ref mW, .ref mL, .int lS])), (mI, .inl (cL, 1200, .inr (.inl u_r_7.2.1))), (mJ, .inl (cI, 4, .inl (k4i u_r_7.2.2.1 u_r_7.2.2.2.1 u_r_7.2.2.2.2.1 u_r_7.2.2.2.2.2.1))), (mS, .inl (cI, 4, .inl (k4i u_r_7.2.2.2.2.2.2.1 u_r_7.2.2.2.2.2.2.2.1 0 u_r_7.2.2.2.2.2.2.2.2.2)))] H := hP
                  have hD : va_D A [(m0, .inr (8, [.ref mH, .int aM, .long aC, .int mM, .long mQ, .int oV, .int pL, .int lI, .int sW, .int dP, .int sT, .long aT, .int 0, .int u_r_7.1, .ref mI, .ref mJ, .ref mS, .ref mD, .int iH, .int aE, .int mN, .long sZ, .ref mX, .int tS, .int tA, .int tW, .ref mA, .ref mB, .ref mW, .ref mL, .int lS])), (mI, .inl (cL, 1200, .inr (.inl u_r_7.2.1))), (mJ, .inl (cI, 4, .inl (k4i u_r_7.2.2.1 u_r_7.2.2.2.1 u_r_7.2.2.2.2.1 u_r_7.2.2.2.2.2.1))), (mS, .inl (cI, 4, .inl (k4i u_r_7.2.2.2.2.2.2.1 u_r_7.2.2.2.2.2.2.2.1 0 u_r_7.2.2.2.2.2.2.2.2.2)))] := hD
                  refine lv_iconst (v := 0) hx hb dX8_reaches_251 (by decide) ?_
                  refine kIret (u := (pL, lI, dP, 0, u_r_7.1, u_r_7.2.1, u_r_7.2.2.1, u_r_7.2.2.2.1, u_r_7.2.2.2.2.1, u_r_7.2.2.2.2.2.1, u_r_7.2.2.2.2.2.2.1, u_r_7.2.2.2.2.2.2.2.1, 0, u_r_7.2.2.2.2.2.2.2.2.2)) hx hb hr rfl hlocks hS dX8_reaches_252 ?_ (hP.sub [0, 1, 2, 3] rfl) (hD.sub [0, 1, 2, 3] (by decide) rfl)
                  try dsimp only
                  try simp only [Int32.reduceToInt, Int64.reduceToInt, true_or, or_true, true_and, and_true]
                  repeat' apply And.intro
                  all_goals first | assumption | omega
                · refine lv_tableIn (tgt := 132) (off := 30) hx hb dX8_reaches_102 (by decide) (by decide) (by decide) (by decide) ?_
                  refine lv_aload_n hx hb dX8_reaches_132 rfl (lv_at hl 2 rfl) ?_
                  refine lv_iload_n hx hb dX8_reaches_133 rfl (lv_at hl 1 rfl) ?_
                  refine lv_if_eq (tgt := 142) hx hb dX8_reaches_134 (by decide) (fun c_134_31 => ?_) (fun c_134_31 => ?_)
                  · have t_134_31 := c_134_31
                    try simp only [kb_eq0, kb_ne0, lg_cmp_lt, lg_cmp_le, lg_cmp_gt, lg_cmp_ge, lg_cmp_eq] at t_134_31
                    try simp only [Int32.lt_iff_toInt_lt, Int32.le_iff_toInt_le, ← Int32.toInt_inj, Int64.lt_iff_toInt_lt, Int64.le_iff_toInt_le, ← Int64.toInt_inj, Int32.toInt_toInt64, Int32.reduceToInt, Int64.reduceToInt] at t_134_31
                    refine lv_iconst (v := 1) hx hb dX8_reaches_142 (by decide) ?_
                    refine lv_iload hx hb dX8_reaches_143 (lv_at hl 0 rfl) ?_
                    refine lv_iadd hx hb dX8_reaches_145 ?_
                    refine lv_topi (fun x_33 ex_33 => ?_)
                    obtain rfl : x_33 = 3 := ex_33.trans (by decide)
                    refine va_put (D := D) (ci := 8) (v := .int 3) (ty := .int) (C := RX8) (T := TX8) (N := 31) hx hb hts iX8_reaches_X8 tyX8 tyX8_ok nmX8 hown hK hP hD hS 0 rfl rfl 12 (by decide) (hts (.fieldLink RX8 43 "TapeCalculatorModel" "chosen" "I") (List.mem_of_getElem? (i := 1) rfl)) (fun _ h9 => h9) rfl (by decide +kernel) rfl rfl (Nat.le_of_ble_eq_true rfl) dX8_reaches_146 (fun H locs hP hD hS => ?_)
                    have hP : va_P D vwCl [(m0, .inr (8, [.ref mH, .int aM, .long aC, .int mM, .long mQ, .int oV, .int pL, .int lI, .int sW, .int dP, .int sT, .long aT, .int 3, .int u_r_7.1, .ref mI, .ref mJ, .ref mS, .ref mD, .int iH, .int aE, .int mN, .long sZ, .ref mX, .int tS, .int tA, .int tW, .ref mA, .ref mB, .ref mW, .ref mL, .int lS])), (mI, .inl (cL, 1200, .inr (.inl u_r_7.2.1))), (mJ, .inl (cI, 4, .inl (k4i u_r_7.2.2.1 u_r_7.2.2.2.1 u_r_7.2.2.2.2.1 u_r_7.2.2.2.2.2.1))), (mS, .inl (cI, 4, .inl (k4i u_r_7.2.2.2.2.2.2.1 u_r_7.2.2.2.2.2.2.2.1 u_r_7.2.2.2.2.2.2.2.2.1 u_r_7.2.2.2.2.2.2.2.2.2)))] H := hP
                    have hD : va_D A [(m0, .inr (8, [.ref mH, .int aM, .long aC, .int mM, .long mQ, .int oV, .int pL, .int lI, .int sW, .int dP, .int sT, .long aT, .int 3, .int u_r_7.1, .ref mI, .ref mJ, .ref mS, .ref mD, .int iH, .int aE, .int mN, .long sZ, .ref mX, .int tS, .int tA, .int tW, .ref mA, .ref mB, .ref mW, .ref mL, .int lS])), (mI, .inl (cL, 1200, .inr (.inl u_r_7.2.1))), (mJ, .inl (cI, 4, .inl (k4i u_r_7.2.2.1 u_r_7.2.2.2.1 u_r_7.2.2.2.2.1 u_r_7.2.2.2.2.2.1))), (mS, .inl (cI, 4, .inl (k4i u_r_7.2.2.2.2.2.2.1 u_r_7.2.2.2.2.2.2.2.1 u_r_7.2.2.2.2.2.2.2.2.1 u_r_7.2.2.2.2.2.2.2.2.2)))] := hD
                    refine lv_goto (tgt := 251) hx hb dX8_reaches_149 (by decide) ?_
                    refine lv_iconst (v := 0) hx hb dX8_reaches_251 (by decide) ?_
                    refine kIret (u := (pL, lI, dP, 3, u_r_7.1, u_r_7.2.1, u_r_7.2.2.1, u_r_7.2.2.2.1, u_r_7.2.2.2.2.1, u_r_7.2.2.2.2.2.1, u_r_7.2.2.2.2.2.2.1, u_r_7.2.2.2.2.2.2.2.1, u_r_7.2.2.2.2.2.2.2.2.1, u_r_7.2.2.2.2.2.2.2.2.2)) hx hb hr rfl hlocks hS dX8_reaches_252 ?_ (hP.sub [0, 1, 2, 3] rfl) (hD.sub [0, 1, 2, 3] (by decide) rfl)
                    try dsimp only
                    try simp only [Int32.reduceToInt, Int64.reduceToInt, true_or, or_true, true_and, and_true]
                    repeat' apply And.intro
                    all_goals first | assumption | omega
                  · exact absurd (by decide) c_134_31
                · refine lv_tableIn (tgt := 152) (off := 50) hx hb dX8_reaches_102 (by decide) (by decide) (by decide) (by decide) ?_
                  refine lv_aload_n hx hb dX8_reaches_152 rfl (lv_at hl 2 rfl) ?_
                  refine lv_iconst (v := 5) hx hb dX8_reaches_153 (by decide) ?_
                  refine lv_iload hx hb dX8_reaches_154 (lv_at hl 0 rfl) ?_
                  refine lv_iadd hx hb dX8_reaches_156 ?_
                  refine lv_topi (fun x_34 ex_34 => ?_)
                  obtain rfl : x_34 = 7 := ex_34.trans (by decide)
                  refine va_put (D := D) (ci := 8) (v := .int 7) (ty := .int) (C := RX8) (T := TX8) (N := 31) hx hb hts iX8_reaches_X8 tyX8 tyX8_ok nmX8 hown hK hP hD hS 0 rfl rfl 12 (by decide) (hts (.fieldLink RX8 43 "TapeCalculatorModel" "chosen" "I") (List.mem_of_getElem? (i := 1) rfl)) (fun _ h9 => h9) rfl (by decide +kernel) rfl rfl (Nat.le_of_ble_eq_true rfl) dX8_reaches_157 (fun H locs hP hD hS => ?_)
                  have hP : va_P D vwCl [(m0, .inr (8, [.ref mH, .int aM, .long aC, .int mM, .long mQ, .int oV, .int pL, .int lI, .int sW, .int dP, .int sT, .long aT, .int 7, .int u_r_7.1, .ref mI, .ref mJ, .ref mS, .ref mD, .int iH, .int aE, .int mN, .long sZ, .ref mX, .int tS, .int tA, .int tW, .ref mA, .ref mB, .ref mW, .ref mL, .int lS])), (mI, .inl (cL, 1200, .inr (.inl u_r_7.2.1))), (mJ, .inl (cI, 4, .inl (k4i u_r_7.2.2.1 u_r_7.2.2.2.1 u_r_7.2.2.2.2.1 u_r_7.2.2.2.2.2.1))), (mS, .inl (cI, 4, .inl (k4i u_r_7.2.2.2.2.2.2.1 u_r_7.2.2.2.2.2.2.2.1 u_r_7.2.2.2.2.2.2.2.2.1 u_r_7.2.2.2.2.2.2.2.2.2)))] H := hP
                  have hD : va_D A [(m0, .inr (8, [.ref mH, .int aM, .long aC, .int mM, .long mQ, .int oV, .int pL, .int lI, .int sW, .int dP, .int sT, .long aT, .int 7, .int u_r_7.1, .ref mI, .ref mJ, .ref mS, .ref mD, .int iH, .int aE, .int mN, .long sZ, .ref mX, .int tS, .int tA, .int tW, .ref mA, .ref mB, .ref mW, .ref mL, .int lS])), (mI, .inl (cL, 1200, .inr (.inl u_r_7.2.1))), (mJ, .inl (cI, 4, .inl (k4i u_r_7.2.2.1 u_r_7.2.2.2.1 u_r_7.2.2.2.2.1 u_r_7.2.2.2.2.2.1))), (mS, .inl (cI, 4, .inl (k4i u_r_7.2.2.2.2.2.2.1 u_r_7.2.2.2.2.2.2.2.1 u_r_7.2.2.2.2.2.2.2.2.1 u_r_7.2.2.2.2.2.2.2.2.2)))] := hD
                  refine lv_goto (tgt := 251) hx hb dX8_reaches_160 (by decide) ?_
                  refine lv_iconst (v := 0) hx hb dX8_reaches_251 (by decide) ?_
                  refine kIret (u := (pL, lI, dP, 7, u_r_7.1, u_r_7.2.1, u_r_7.2.2.1, u_r_7.2.2.2.1, u_r_7.2.2.2.2.1, u_r_7.2.2.2.2.2.1, u_r_7.2.2.2.2.2.2.1, u_r_7.2.2.2.2.2.2.2.1, u_r_7.2.2.2.2.2.2.2.2.1, u_r_7.2.2.2.2.2.2.2.2.2)) hx hb hr rfl hlocks hS dX8_reaches_252 ?_ (hP.sub [0, 1, 2, 3] rfl) (hD.sub [0, 1, 2, 3] (by decide) rfl)
                  try dsimp only
                  try simp only [Int32.reduceToInt, Int64.reduceToInt, true_or, or_true, true_and, and_true]
                  repeat' apply And.intro
                  all_goals first | assumption | omega
                · refine lv_tableIn (tgt := 163) (off := 61) hx hb dX8_reaches_102 (by decide) (by decide) (by decide) (by decide) ?_
                  refine lv_iload_n hx hb dX8_reaches_163 rfl (lv_at hl 1 rfl) ?_
                  refine lv_if_ne (tgt := 181) hx hb dX8_reaches_164 (by decide) (fun c_164_34 => ?_) (fun c_164_34 => ?_)
                  · exact absurd (by decide) c_164_34
                  · have t_164_34 := c_164_34
                    try simp only [kb_eq0, kb_ne0, lg_cmp_lt, lg_cmp_le, lg_cmp_gt, lg_cmp_ge, lg_cmp_eq] at t_164_34
                    try simp only [Int32.lt_iff_toInt_lt, Int32.le_iff_toInt_le, ← Int32.toInt_inj, Int64.lt_iff_toInt_lt, Int64.le_iff_toInt_le, ← Int64.toInt_inj, Int32.toInt_toInt64, Int32.reduceToInt, Int64.reduceToInt] at t_164_34
                    refine lv_aload_n hx hb dX8_reaches_167 rfl (lv_at hl 2 rfl) ?_
                    refine va_get (D := D) (ci := 8) (v := .ref mJ) (C := RX8) (T := TX8) (N := 31) hx hb hts iX8_reaches_X8 hown hK hP 0 rfl rfl 15 (by decide) (hts (.fieldLink RX8 17 "TapeCalculatorModel" "items" "[I") (List.mem_of_getElem? (i := 5) rfl)) (fun _ h9 => h9) rfl dX8_reaches_168 ?_
                    refine lv_iload hx hb dX8_reaches_171 (lv_at hl 0 rfl) ?_
                    refine lv_aload_n hx hb dX8_reaches_173 rfl (lv_at hl 2 rfl) ?_
                    refine va_get (D := D) (ci := 8) (v := .ref mS) (C := RX8) (T := TX8) (N := 31) hx hb hts iX8_reaches_X8 hown hK hP 0 rfl rfl 16 (by decide) (hts (.fieldLink RX8 20 "TapeCalculatorModel" "stands" "[I") (List.mem_of_getElem? (i := 6) rfl)) (fun _ h9 => h9) rfl dX8_reaches_174 ?_
                    refine lv_iload hx hb dX8_reaches_177 (lv_at hl 0 rfl) ?_
                    refine va_iald hx hb hK hP 3 0 rfl rfl (vp_in_iff.mpr (by decide)) dX8_reaches_179 ?_
                    refine lv_topi (fun x_36 ex_36 => ?_)
                    obtain rfl : u_r_7.2.2.2.2.2.2.2.2.1 = x_36 := ex_36.symm
                    refine va_iast hx hb hK hP hD hS 2 0 rfl rfl (vp_in_iff.mpr (by decide)) dX8_reaches_180 (fun H locs hP hD hS => ?_)
                    rw [k4i_2] at hP hD
                    have hP : va_P D vwCl [(m0, .inr (8, [.ref mH, .int aM, .long aC, .int mM, .long mQ, .int oV, .int pL, .int lI, .int sW, .int dP, .int sT, .long aT, .int cH, .int u_r_7.1, .ref mI, .ref mJ, .ref mS, .ref mD, .int iH, .int aE, .int mN, .long sZ, .ref mX, .int tS, .int tA, .int tW, .ref mA, .ref mB, .ref mW, .ref mL, .int lS])), (mI, .inl (cL, 1200, .inr (.inl u_r_7.2.1))), (mJ, .inl (cI, 4, .inl (k4i u_r_7.2.2.1 u_r_7.2.2.2.1 (u_r_7.2.2.2.2.2.2.2.2.1) u_r_7.2.2.2.2.2.1))), (mS, .inl (cI, 4, .inl (k4i u_r_7.2.2.2.2.2.2.1 u_r_7.2.2.2.2.2.2.2.1 u_r_7.2.2.2.2.2.2.2.2.1 u_r_7.2.2.2.2.2.2.2.2.2)))] H := hP
                    have hD : va_D A [(m0, .inr (8, [.ref mH, .int aM, .long aC, .int mM, .long mQ, .int oV, .int pL, .int lI, .int sW, .int dP, .int sT, .long aT, .int cH, .int u_r_7.1, .ref mI, .ref mJ, .ref mS, .ref mD, .int iH, .int aE, .int mN, .long sZ, .ref mX, .int tS, .int tA, .int tW, .ref mA, .ref mB, .ref mW, .ref mL, .int lS])), (mI, .inl (cL, 1200, .inr (.inl u_r_7.2.1))), (mJ, .inl (cI, 4, .inl (k4i u_r_7.2.2.1 u_r_7.2.2.2.1 (u_r_7.2.2.2.2.2.2.2.2.1) u_r_7.2.2.2.2.2.1))), (mS, .inl (cI, 4, .inl (k4i u_r_7.2.2.2.2.2.2.1 u_r_7.2.2.2.2.2.2.2.1 u_r_7.2.2.2.2.2.2.2.2.1 u_r_7.2.2.2.2.2.2.2.2.2)))] := hD
                    refine lv_aload_n hx hb dX8_reaches_181 rfl (lv_at hl 2 rfl) ?_
                    refine lv_iload_n hx hb dX8_reaches_182 rfl (lv_at hl 1 rfl) ?_
                    refine lv_if_eq (tgt := 191) hx hb dX8_reaches_183 (by decide) (fun c_183_36 => ?_) (fun c_183_36 => ?_)
                    · have t_183_36 := c_183_36
                      try simp only [kb_eq0, kb_ne0, lg_cmp_lt, lg_cmp_le, lg_cmp_gt, lg_cmp_ge, lg_cmp_eq] at t_183_36
                      try simp only [Int32.lt_iff_toInt_lt, Int32.le_iff_toInt_le, ← Int32.toInt_inj, Int64.lt_iff_toInt_lt, Int64.le_iff_toInt_le, ← Int64.toInt_inj, Int32.toInt_toInt64, Int32.reduceToInt, Int64.reduceToInt] at t_183_36
                      refine lv_bipush (v := 9) hx hb dX8_reaches_191 (by decide) ?_
                      refine lv_iload hx hb dX8_reaches_193 (lv_at hl 0 rfl) ?_
                      refine lv_iadd hx hb dX8_reaches_195 ?_
                      refine lv_topi (fun x_38 ex_38 => ?_)
                      obtain rfl : x_38 = 11 := ex_38.trans (by decide)
                      refine va_put (D := D) (ci := 8) (v := .int 11) (ty := .int) (C := RX8) (T := TX8) (N := 31) hx hb hts iX8_reaches_X8 tyX8 tyX8_ok nmX8 hown hK hP hD hS 0 rfl rfl 12 (by decide) (hts (.fieldLink RX8 43 "TapeCalculatorModel" "chosen" "I") (List.mem_of_getElem? (i := 1) rfl)) (fun _ h9 => h9) rfl (by decide +kernel) rfl rfl (Nat.le_of_ble_eq_true rfl) dX8_reaches_196 (fun H locs hP hD hS => ?_)
                      have hP : va_P D vwCl [(m0, .inr (8, [.ref mH, .int aM, .long aC, .int mM, .long mQ, .int oV, .int pL, .int lI, .int sW, .int dP, .int sT, .long aT, .int 11, .int u_r_7.1, .ref mI, .ref mJ, .ref mS, .ref mD, .int iH, .int aE, .int mN, .long sZ, .ref mX, .int tS, .int tA, .int tW, .ref mA, .ref mB, .ref mW, .ref mL, .int lS])), (mI, .inl (cL, 1200, .inr (.inl u_r_7.2.1))), (mJ, .inl (cI, 4, .inl (k4i u_r_7.2.2.1 u_r_7.2.2.2.1 (u_r_7.2.2.2.2.2.2.2.2.1) u_r_7.2.2.2.2.2.1))), (mS, .inl (cI, 4, .inl (k4i u_r_7.2.2.2.2.2.2.1 u_r_7.2.2.2.2.2.2.2.1 u_r_7.2.2.2.2.2.2.2.2.1 u_r_7.2.2.2.2.2.2.2.2.2)))] H := hP
                      have hD : va_D A [(m0, .inr (8, [.ref mH, .int aM, .long aC, .int mM, .long mQ, .int oV, .int pL, .int lI, .int sW, .int dP, .int sT, .long aT, .int 11, .int u_r_7.1, .ref mI, .ref mJ, .ref mS, .ref mD, .int iH, .int aE, .int mN, .long sZ, .ref mX, .int tS, .int tA, .int tW, .ref mA, .ref mB, .ref mW, .ref mL, .int lS])), (mI, .inl (cL, 1200, .inr (.inl u_r_7.2.1))), (mJ, .inl (cI, 4, .inl (k4i u_r_7.2.2.1 u_r_7.2.2.2.1 (u_r_7.2.2.2.2.2.2.2.2.1) u_r_7.2.2.2.2.2.1))), (mS, .inl (cI, 4, .inl (k4i u_r_7.2.2.2.2.2.2.1 u_r_7.2.2.2.2.2.2.2.1 u_r_7.2.2.2.2.2.2.2.2.1 u_r_7.2.2.2.2.2.2.2.2.2)))] := hD
                      refine lv_goto (tgt := 251) hx hb dX8_reaches_199 (by decide) ?_
                      refine lv_iconst (v := 0) hx hb dX8_reaches_251 (by decide) ?_
                      refine kIret (u := (pL, lI, dP, 11, u_r_7.1, u_r_7.2.1, u_r_7.2.2.1, u_r_7.2.2.2.1, (u_r_7.2.2.2.2.2.2.2.2.1), u_r_7.2.2.2.2.2.1, u_r_7.2.2.2.2.2.2.1, u_r_7.2.2.2.2.2.2.2.1, u_r_7.2.2.2.2.2.2.2.2.1, u_r_7.2.2.2.2.2.2.2.2.2)) hx hb hr rfl hlocks hS dX8_reaches_252 ?_ (hP.sub [0, 1, 2, 3] rfl) (hD.sub [0, 1, 2, 3] (by decide) rfl)
                      try dsimp only
                      try simp only [Int32.reduceToInt, Int64.reduceToInt, true_or, or_true, true_and, and_true]
                      repeat' apply And.intro
                      all_goals first | assumption | omega
                    · exact absurd (by decide) c_183_36
                · refine lv_tableIn (tgt := 202) (off := 100) hx hb dX8_reaches_102 (by decide) (by decide) (by decide) (by decide) ?_
                  refine lv_aload_n hx hb dX8_reaches_202 rfl (lv_at hl 2 rfl) ?_
                  refine va_get (D := D) (ci := 8) (v := .ref mJ) (C := RX8) (T := TX8) (N := 31) hx hb hts iX8_reaches_X8 hown hK hP 0 rfl rfl 15 (by decide) (hts (.fieldLink RX8 17 "TapeCalculatorModel" "items" "[I") (List.mem_of_getElem? (i := 5) rfl)) (fun _ h9 => h9) rfl dX8_reaches_203 ?_
                  refine lv_iload hx hb dX8_reaches_206 (lv_at hl 0 rfl) ?_
                  refine lv_aload_n hx hb dX8_reaches_208 rfl (lv_at hl 2 rfl) ?_
                  refine va_get (D := D) (ci := 8) (v := .ref mS) (C := RX8) (T := TX8) (N := 31) hx hb hts iX8_reaches_X8 hown hK hP 0 rfl rfl 16 (by decide) (hts (.fieldLink RX8 20 "TapeCalculatorModel" "stands" "[I") (List.mem_of_getElem? (i := 6) rfl)) (fun _ h9 => h9) rfl dX8_reaches_209 ?_
                  refine lv_iload hx hb dX8_reaches_212 (lv_at hl 0 rfl) ?_
                  refine va_iald hx hb hK hP 3 0 rfl rfl (vp_in_iff.mpr (by decide)) dX8_reaches_214 ?_
                  refine lv_topi (fun x_39 ex_39 => ?_)
                  obtain rfl : u_r_7.2.2.2.2.2.2.2.2.1 = x_39 := ex_39.symm
                  refine va_iast hx hb hK hP hD hS 2 0 rfl rfl (vp_in_iff.mpr (by decide)) dX8_reaches_215 (fun H locs hP hD hS => ?_)
                  rw [k4i_2] at hP hD
                  have hP : va_P D vwCl [(m0, .inr (8, [.ref mH, .int aM, .long aC, .int mM, .long mQ, .int oV, .int pL, .int lI, .int sW, .int dP, .int sT, .long aT, .int cH, .int u_r_7.1, .ref mI, .ref mJ, .ref mS, .ref mD, .int iH, .int aE, .int mN, .long sZ, .ref mX, .int tS, .int tA, .int tW, .ref mA, .ref mB, .ref mW, .ref mL, .int lS])), (mI, .inl (cL, 1200, .inr (.inl u_r_7.2.1))), (mJ, .inl (cI, 4, .inl (k4i u_r_7.2.2.1 u_r_7.2.2.2.1 (u_r_7.2.2.2.2.2.2.2.2.1) u_r_7.2.2.2.2.2.1))), (mS, .inl (cI, 4, .inl (k4i u_r_7.2.2.2.2.2.2.1 u_r_7.2.2.2.2.2.2.2.1 u_r_7.2.2.2.2.2.2.2.2.1 u_r_7.2.2.2.2.2.2.2.2.2)))] H := hP
                  have hD : va_D A [(m0, .inr (8, [.ref mH, .int aM, .long aC, .int mM, .long mQ, .int oV, .int pL, .int lI, .int sW, .int dP, .int sT, .long aT, .int cH, .int u_r_7.1, .ref mI, .ref mJ, .ref mS, .ref mD, .int iH, .int aE, .int mN, .long sZ, .ref mX, .int tS, .int tA, .int tW, .ref mA, .ref mB, .ref mW, .ref mL, .int lS])), (mI, .inl (cL, 1200, .inr (.inl u_r_7.2.1))), (mJ, .inl (cI, 4, .inl (k4i u_r_7.2.2.1 u_r_7.2.2.2.1 (u_r_7.2.2.2.2.2.2.2.2.1) u_r_7.2.2.2.2.2.1))), (mS, .inl (cI, 4, .inl (k4i u_r_7.2.2.2.2.2.2.1 u_r_7.2.2.2.2.2.2.2.1 u_r_7.2.2.2.2.2.2.2.2.1 u_r_7.2.2.2.2.2.2.2.2.2)))] := hD
                  refine lv_aload_n hx hb dX8_reaches_216 rfl (lv_at hl 2 rfl) ?_
                  refine lv_iload hx hb dX8_reaches_217 (lv_at hl 0 rfl) ?_
                  refine lv_ldc2 (v := (-3)) hx hb hown (hts (.constantLong RX8 113 (-3)) (List.mem_of_getElem? (i := 7) rfl)) dX8_reaches_219 ?_
                  refine kCallI (wr := []) (va_runV (As := [.int 2, .long (-3)]) (rest := []) ⟨hx, hb, hml, hown, hts⟩ (q_puts l D cI cL cB cZ cT _ m0 mH mI mJ mS mD mX mA mB mW mL aM aC mM mQ oV pL lI sW dP sT aT cH (u_r_7.1) iH aE mN sZ tS tA tW lS (u_r_7.2.1) (u_r_7.2.2.1) (u_r_7.2.2.2.1) (u_r_7.2.2.2.2.2.2.2.2.1) (u_r_7.2.2.2.2.2.1) (u_r_7.2.2.2.2.2.2.1) (u_r_7.2.2.2.2.2.2.2.1) (u_r_7.2.2.2.2.2.2.2.2.1) (u_r_7.2.2.2.2.2.2.2.2.2) 2 (-3) (by omega) (by decide)) (cwV 2 hts gX8_reaches_X8_puts rfl rfl rfl (by decide +kernel) ⟨Nat.le_of_ble_eq_true rfl, Nat.le_of_ble_eq_true rfl⟩) (kPreV hG hP hD [0, 1, 2, 3] rfl (by decide) 0 8 rfl rfl rfl) rfl rfl hl.1 rfl (lv_room (Nat.le_of_ble_eq_true rfl)) dX8_reaches_222 ⟨Nat.le_of_ble_eq_true rfl, Nat.le_of_ble_eq_true rfl⟩) hA hP hD hS [0, 1, 2, 3] [] rfl rfl (by decide) (by decide) (fun r_40 u_r_40 H locs wr_40 hP hD hS => ?_)
                  have hP : va_P D vwCl [(m0, .inr (8, [.ref mH, .int aM, .long aC, .int mM, .long mQ, .int oV, .int pL, .int lI, .int sW, .int dP, .int sT, .long aT, .int cH, .int u_r_7.1, .ref mI, .ref mJ, .ref mS, .ref mD, .int iH, .int aE, .int mN, .long sZ, .ref mX, .int tS, .int tA, .int tW, .ref mA, .ref mB, .ref mW, .ref mL, .int lS])), (mI, .inl (cL, 1200, .inr (.inl u_r_40.1))), (mJ, .inl (cI, 4, .inl (k4i u_r_40.2.1 u_r_40.2.2.1 u_r_40.2.2.2.1 u_r_40.2.2.2.2.1))), (mS, .inl (cI, 4, .inl (k4i u_r_40.2.2.2.2.2.1 u_r_40.2.2.2.2.2.2.1 u_r_40.2.2.2.2.2.2.2.1 u_r_40.2.2.2.2.2.2.2.2)))] H := hP
                  have hD : va_D A [(m0, .inr (8, [.ref mH, .int aM, .long aC, .int mM, .long mQ, .int oV, .int pL, .int lI, .int sW, .int dP, .int sT, .long aT, .int cH, .int u_r_7.1, .ref mI, .ref mJ, .ref mS, .ref mD, .int iH, .int aE, .int mN, .long sZ, .ref mX, .int tS, .int tA, .int tW, .ref mA, .ref mB, .ref mW, .ref mL, .int lS])), (mI, .inl (cL, 1200, .inr (.inl u_r_40.1))), (mJ, .inl (cI, 4, .inl (k4i u_r_40.2.1 u_r_40.2.2.1 u_r_40.2.2.2.1 u_r_40.2.2.2.2.1))), (mS, .inl (cI, 4, .inl (k4i u_r_40.2.2.2.2.2.1 u_r_40.2.2.2.2.2.2.1 u_r_40.2.2.2.2.2.2.2.1 u_r_40.2.2.2.2.2.2.2.2)))] := hD
                  try dsimp only at wr_40
                  try simp only [Int32.reduceToInt, Int64.reduceToInt] at wr_40
                  refine lv_if_ne (tgt := 230) hx hb dX8_reaches_225 (by decide) (fun c_225_40 => ?_) (fun c_225_40 => ?_)
                  · have t_225_40 := c_225_40
                    try simp only [kb_eq0, kb_ne0, lg_cmp_lt, lg_cmp_le, lg_cmp_gt, lg_cmp_ge, lg_cmp_eq] at t_225_40
                    try simp only [Int32.lt_iff_toInt_lt, Int32.le_iff_toInt_le, ← Int32.toInt_inj, Int64.lt_iff_toInt_lt, Int64.le_iff_toInt_le, ← Int64.toInt_inj, Int32.toInt_toInt64, Int32.reduceToInt, Int64.reduceToInt] at t_225_40
                    refine lv_aload_n hx hb dX8_reaches_230 rfl (lv_at hl 2 rfl) ?_
                    refine lv_iconst (v := 0) hx hb dX8_reaches_231 (by decide) ?_
                    refine va_put (D := D) (ci := 8) (v := .int 0) (ty := .int) (C := RX8) (T := TX8) (N := 31) hx hb hts iX8_reaches_X8 tyX8 tyX8_ok nmX8 hown hK hP hD hS 0 rfl rfl 12 (by decide) (hts (.fieldLink RX8 43 "TapeCalculatorModel" "chosen" "I") (List.mem_of_getElem? (i := 1) rfl)) (fun _ h9 => h9) rfl (by decide +kernel) rfl rfl (Nat.le_of_ble_eq_true rfl) dX8_reaches_232 (fun H locs hP hD hS => ?_)
                    have hP : va_P D vwCl [(m0, .inr (8, [.ref mH, .int aM, .long aC, .int mM, .long mQ, .int oV, .int pL, .int lI, .int sW, .int dP, .int sT, .long aT, .int 0, .int u_r_7.1, .ref mI, .ref mJ, .ref mS, .ref mD, .int iH, .int aE, .int mN, .long sZ, .ref mX, .int tS, .int tA, .int tW, .ref mA, .ref mB, .ref mW, .ref mL, .int lS])), (mI, .inl (cL, 1200, .inr (.inl u_r_40.1))), (mJ, .inl (cI, 4, .inl (k4i u_r_40.2.1 u_r_40.2.2.1 u_r_40.2.2.2.1 u_r_40.2.2.2.2.1))), (mS, .inl (cI, 4, .inl (k4i u_r_40.2.2.2.2.2.1 u_r_40.2.2.2.2.2.2.1 u_r_40.2.2.2.2.2.2.2.1 u_r_40.2.2.2.2.2.2.2.2)))] H := hP
                    have hD : va_D A [(m0, .inr (8, [.ref mH, .int aM, .long aC, .int mM, .long mQ, .int oV, .int pL, .int lI, .int sW, .int dP, .int sT, .long aT, .int 0, .int u_r_7.1, .ref mI, .ref mJ, .ref mS, .ref mD, .int iH, .int aE, .int mN, .long sZ, .ref mX, .int tS, .int tA, .int tW, .ref mA, .ref mB, .ref mW, .ref mL, .int lS])), (mI, .inl (cL, 1200, .inr (.inl u_r_40.1))), (mJ, .inl (cI, 4, .inl (k4i u_r_40.2.1 u_r_40.2.2.1 u_r_40.2.2.2.1 u_r_40.2.2.2.2.1))), (mS, .inl (cI, 4, .inl (k4i u_r_40.2.2.2.2.2.1 u_r_40.2.2.2.2.2.2.1 u_r_40.2.2.2.2.2.2.2.1 u_r_40.2.2.2.2.2.2.2.2)))] := hD
                    refine lv_goto (tgt := 251) hx hb dX8_reaches_235 (by decide) ?_
                    refine lv_iconst (v := 0) hx hb dX8_reaches_251 (by decide) ?_
                    refine kIret (u := (pL, lI, dP, 0, u_r_7.1, u_r_40.1, u_r_40.2.1, u_r_40.2.2.1, u_r_40.2.2.2.1, u_r_40.2.2.2.2.1, u_r_40.2.2.2.2.2.1, u_r_40.2.2.2.2.2.2.1, u_r_40.2.2.2.2.2.2.2.1, u_r_40.2.2.2.2.2.2.2.2)) hx hb hr rfl hlocks hS dX8_reaches_252 ?_ (hP.sub [0, 1, 2, 3] rfl) (hD.sub [0, 1, 2, 3] (by decide) rfl)
                    try dsimp only
                    try simp only [Int32.reduceToInt, Int64.reduceToInt, true_or, or_true, true_and, and_true]
                    repeat' apply And.intro
                    all_goals first | assumption | omega
                  · have t_225_40 := c_225_40
                    try simp only [kb_eq0, kb_ne0, lg_cmp_lt, lg_cmp_le, lg_cmp_gt, lg_cmp_ge, lg_cmp_eq] at t_225_40
                    try simp only [Int32.lt_iff_toInt_lt, Int32.le_iff_toInt_le, ← Int32.toInt_inj, Int64.lt_iff_toInt_lt, Int64.le_iff_toInt_le, ← Int64.toInt_inj, Int32.toInt_toInt64, Int32.reduceToInt, Int64.reduceToInt] at t_225_40
                    refine lv_iconst (v := 5) hx hb dX8_reaches_228 (by decide) ?_
                    refine kIret (u := (pL, lI, dP, cH, u_r_7.1, u_r_40.1, u_r_40.2.1, u_r_40.2.2.1, u_r_40.2.2.2.1, u_r_40.2.2.2.2.1, u_r_40.2.2.2.2.2.1, u_r_40.2.2.2.2.2.2.1, u_r_40.2.2.2.2.2.2.2.1, u_r_40.2.2.2.2.2.2.2.2)) hx hb hr rfl hlocks hS dX8_reaches_229 ?_ (hP.sub [0, 1, 2, 3] rfl) (hD.sub [0, 1, 2, 3] (by decide) rfl)
                    try dsimp only
                    try simp only [Int32.reduceToInt, Int64.reduceToInt, true_or, or_true, true_and, and_true]
                    repeat' apply And.intro
                    all_goals first | assumption | omega
              · refine lv_iload_n hx hb dX8_reaches_94 rfl (lv_at hl 3 rfl) ?_
                refine lv_sipush (v := 256) hx hb dX8_reaches_95 (by decide) ?_
                refine lv_isub hx hb dX8_reaches_98 ?_
                refine lv_topi (fun x_42 ex_42 => ?_)
                obtain rfl : x_42 = 3 := ex_42.trans (by decide)
                refine lv_istore (lv' := [(4, .int 3), (3, .int 0), (0, .ref m0), (1, .int a), (2, .int 259)]) hx hb dX8_reaches_99 hl (by decide) rfl (fun ls hl => ?_)
                refine lv_iload_n hx hb dX8_reaches_101 rfl (lv_at hl 3 rfl) ?_
                rcases ksw_24_27 a with hsw | rfl | rfl | rfl | rfl
                · refine lv_tableOut (tgt := 238) hx hb dX8_reaches_102 hsw (by decide) ?_
                  refine lv_aload_n hx hb dX8_reaches_238 rfl (lv_at hl 2 rfl) ?_
                  refine va_get (D := D) (ci := 8) (v := .ref mS) (C := RX8) (T := TX8) (N := 31) hx hb hts iX8_reaches_X8 hown hK hP 0 rfl rfl 16 (by decide) (hts (.fieldLink RX8 20 "TapeCalculatorModel" "stands" "[I") (List.mem_of_getElem? (i := 6) rfl)) (fun _ h9 => h9) rfl dX8_reaches_239 ?_
                  refine lv_iload hx hb dX8_reaches_242 (lv_at hl 0 rfl) ?_
                  refine lv_iconst (v := 0) hx hb dX8_reaches_244 (by decide) ?_
                  refine va_iast hx hb hK hP hD hS 3 0 rfl rfl (vp_in_iff.mpr (by decide)) dX8_reaches_245 (fun H locs hP hD hS => ?_)
                  rw [k4i_3] at hP hD
                  have hP : va_P D vwCl [(m0, .inr (8, [.ref mH, .int aM, .long aC, .int mM, .long mQ, .int oV, .int pL, .int lI, .int sW, .int dP, .int sT, .long aT, .int cH, .int u_r_7.1, .ref mI, .ref mJ, .ref mS, .ref mD, .int iH, .int aE, .int mN, .long sZ, .ref mX, .int tS, .int tA, .int tW, .ref mA, .ref mB, .ref mW, .ref mL, .int lS])), (mI, .inl (cL, 1200, .inr (.inl u_r_7.2.1))), (mJ, .inl (cI, 4, .inl (k4i u_r_7.2.2.1 u_r_7.2.2.2.1 u_r_7.2.2.2.2.1 u_r_7.2.2.2.2.2.1))), (mS, .inl (cI, 4, .inl (k4i u_r_7.2.2.2.2.2.2.1 u_r_7.2.2.2.2.2.2.2.1 u_r_7.2.2.2.2.2.2.2.2.1 0)))] H := hP
                  have hD : va_D A [(m0, .inr (8, [.ref mH, .int aM, .long aC, .int mM, .long mQ, .int oV, .int pL, .int lI, .int sW, .int dP, .int sT, .long aT, .int cH, .int u_r_7.1, .ref mI, .ref mJ, .ref mS, .ref mD, .int iH, .int aE, .int mN, .long sZ, .ref mX, .int tS, .int tA, .int tW, .ref mA, .ref mB, .ref mW, .ref mL, .int lS])), (mI, .inl (cL, 1200, .inr (.inl u_r_7.2.1))), (mJ, .inl (cI, 4, .inl (k4i u_r_7.2.2.1 u_r_7.2.2.2.1 u_r_7.2.2.2.2.1 u_r_7.2.2.2.2.2.1))), (mS, .inl (cI, 4, .inl (k4i u_r_7.2.2.2.2.2.2.1 u_r_7.2.2.2.2.2.2.2.1 u_r_7.2.2.2.2.2.2.2.2.1 0)))] := hD
                  refine lv_aload_n hx hb dX8_reaches_246 rfl (lv_at hl 2 rfl) ?_
                  refine lv_iconst (v := 0) hx hb dX8_reaches_247 (by decide) ?_
                  refine va_put (D := D) (ci := 8) (v := .int 0) (ty := .int) (C := RX8) (T := TX8) (N := 31) hx hb hts iX8_reaches_X8 tyX8 tyX8_ok nmX8 hown hK hP hD hS 0 rfl rfl 12 (by decide) (hts (.fieldLink RX8 43 "TapeCalculatorModel" "chosen" "I") (List.mem_of_getElem? (i := 1) rfl)) (fun _ h9 => h9) rfl (by decide +kernel) rfl rfl (Nat.le_of_ble_eq_true rfl) dX8_reaches_248 (fun H locs hP hD hS => ?_)
                  have hP : va_P D vwCl [(m0, .inr (8, [.ref mH, .int aM, .long aC, .int mM, .long mQ, .int oV, .int pL, .int lI, .int sW, .int dP, .int sT, .long aT, .int 0, .int u_r_7.1, .ref mI, .ref mJ, .ref mS, .ref mD, .int iH, .int aE, .int mN, .long sZ, .ref mX, .int tS, .int tA, .int tW, .ref mA, .ref mB, .ref mW, .ref mL, .int lS])), (mI, .inl (cL, 1200, .inr (.inl u_r_7.2.1))), (mJ, .inl (cI, 4, .inl (k4i u_r_7.2.2.1 u_r_7.2.2.2.1 u_r_7.2.2.2.2.1 u_r_7.2.2.2.2.2.1))), (mS, .inl (cI, 4, .inl (k4i u_r_7.2.2.2.2.2.2.1 u_r_7.2.2.2.2.2.2.2.1 u_r_7.2.2.2.2.2.2.2.2.1 0)))] H := hP
                  have hD : va_D A [(m0, .inr (8, [.ref mH, .int aM, .long aC, .int mM, .long mQ, .int oV, .int pL, .int lI, .int sW, .int dP, .int sT, .long aT, .int 0, .int u_r_7.1, .ref mI, .ref mJ, .ref mS, .ref mD, .int iH, .int aE, .int mN, .long sZ, .ref mX, .int tS, .int tA, .int tW, .ref mA, .ref mB, .ref mW, .ref mL, .int lS])), (mI, .inl (cL, 1200, .inr (.inl u_r_7.2.1))), (mJ, .inl (cI, 4, .inl (k4i u_r_7.2.2.1 u_r_7.2.2.2.1 u_r_7.2.2.2.2.1 u_r_7.2.2.2.2.2.1))), (mS, .inl (cI, 4, .inl (k4i u_r_7.2.2.2.2.2.2.1 u_r_7.2.2.2.2.2.2.2.1 u_r_7.2.2.2.2.2.2.2.2.1 0)))] := hD
                  refine lv_iconst (v := 0) hx hb dX8_reaches_251 (by decide) ?_
                  refine kIret (u := (pL, lI, dP, 0, u_r_7.1, u_r_7.2.1, u_r_7.2.2.1, u_r_7.2.2.2.1, u_r_7.2.2.2.2.1, u_r_7.2.2.2.2.2.1, u_r_7.2.2.2.2.2.2.1, u_r_7.2.2.2.2.2.2.2.1, u_r_7.2.2.2.2.2.2.2.2.1, 0)) hx hb hr rfl hlocks hS dX8_reaches_252 ?_ (hP.sub [0, 1, 2, 3] rfl) (hD.sub [0, 1, 2, 3] (by decide) rfl)
                  try dsimp only
                  try simp only [Int32.reduceToInt, Int64.reduceToInt, true_or, or_true, true_and, and_true]
                  repeat' apply And.intro
                  all_goals first | assumption | omega
                · refine lv_tableIn (tgt := 132) (off := 30) hx hb dX8_reaches_102 (by decide) (by decide) (by decide) (by decide) ?_
                  refine lv_aload_n hx hb dX8_reaches_132 rfl (lv_at hl 2 rfl) ?_
                  refine lv_iload_n hx hb dX8_reaches_133 rfl (lv_at hl 1 rfl) ?_
                  refine lv_if_eq (tgt := 142) hx hb dX8_reaches_134 (by decide) (fun c_134_42 => ?_) (fun c_134_42 => ?_)
                  · have t_134_42 := c_134_42
                    try simp only [kb_eq0, kb_ne0, lg_cmp_lt, lg_cmp_le, lg_cmp_gt, lg_cmp_ge, lg_cmp_eq] at t_134_42
                    try simp only [Int32.lt_iff_toInt_lt, Int32.le_iff_toInt_le, ← Int32.toInt_inj, Int64.lt_iff_toInt_lt, Int64.le_iff_toInt_le, ← Int64.toInt_inj, Int32.toInt_toInt64, Int32.reduceToInt, Int64.reduceToInt] at t_134_42
                    refine lv_iconst (v := 1) hx hb dX8_reaches_142 (by decide) ?_
                    refine lv_iload hx hb dX8_reaches_143 (lv_at hl 0 rfl) ?_
                    refine lv_iadd hx hb dX8_reaches_145 ?_
                    refine lv_topi (fun x_44 ex_44 => ?_)
                    obtain rfl : x_44 = 4 := ex_44.trans (by decide)
                    refine va_put (D := D) (ci := 8) (v := .int 4) (ty := .int) (C := RX8) (T := TX8) (N := 31) hx hb hts iX8_reaches_X8 tyX8 tyX8_ok nmX8 hown hK hP hD hS 0 rfl rfl 12 (by decide) (hts (.fieldLink RX8 43 "TapeCalculatorModel" "chosen" "I") (List.mem_of_getElem? (i := 1) rfl)) (fun _ h9 => h9) rfl (by decide +kernel) rfl rfl (Nat.le_of_ble_eq_true rfl) dX8_reaches_146 (fun H locs hP hD hS => ?_)
                    have hP : va_P D vwCl [(m0, .inr (8, [.ref mH, .int aM, .long aC, .int mM, .long mQ, .int oV, .int pL, .int lI, .int sW, .int dP, .int sT, .long aT, .int 4, .int u_r_7.1, .ref mI, .ref mJ, .ref mS, .ref mD, .int iH, .int aE, .int mN, .long sZ, .ref mX, .int tS, .int tA, .int tW, .ref mA, .ref mB, .ref mW, .ref mL, .int lS])), (mI, .inl (cL, 1200, .inr (.inl u_r_7.2.1))), (mJ, .inl (cI, 4, .inl (k4i u_r_7.2.2.1 u_r_7.2.2.2.1 u_r_7.2.2.2.2.1 u_r_7.2.2.2.2.2.1))), (mS, .inl (cI, 4, .inl (k4i u_r_7.2.2.2.2.2.2.1 u_r_7.2.2.2.2.2.2.2.1 u_r_7.2.2.2.2.2.2.2.2.1 u_r_7.2.2.2.2.2.2.2.2.2)))] H := hP
                    have hD : va_D A [(m0, .inr (8, [.ref mH, .int aM, .long aC, .int mM, .long mQ, .int oV, .int pL, .int lI, .int sW, .int dP, .int sT, .long aT, .int 4, .int u_r_7.1, .ref mI, .ref mJ, .ref mS, .ref mD, .int iH, .int aE, .int mN, .long sZ, .ref mX, .int tS, .int tA, .int tW, .ref mA, .ref mB, .ref mW, .ref mL, .int lS])), (mI, .inl (cL, 1200, .inr (.inl u_r_7.2.1))), (mJ, .inl (cI, 4, .inl (k4i u_r_7.2.2.1 u_r_7.2.2.2.1 u_r_7.2.2.2.2.1 u_r_7.2.2.2.2.2.1))), (mS, .inl (cI, 4, .inl (k4i u_r_7.2.2.2.2.2.2.1 u_r_7.2.2.2.2.2.2.2.1 u_r_7.2.2.2.2.2.2.2.2.1 u_r_7.2.2.2.2.2.2.2.2.2)))] := hD
                    refine lv_goto (tgt := 251) hx hb dX8_reaches_149 (by decide) ?_
                    refine lv_iconst (v := 0) hx hb dX8_reaches_251 (by decide) ?_
                    refine kIret (u := (pL, lI, dP, 4, u_r_7.1, u_r_7.2.1, u_r_7.2.2.1, u_r_7.2.2.2.1, u_r_7.2.2.2.2.1, u_r_7.2.2.2.2.2.1, u_r_7.2.2.2.2.2.2.1, u_r_7.2.2.2.2.2.2.2.1, u_r_7.2.2.2.2.2.2.2.2.1, u_r_7.2.2.2.2.2.2.2.2.2)) hx hb hr rfl hlocks hS dX8_reaches_252 ?_ (hP.sub [0, 1, 2, 3] rfl) (hD.sub [0, 1, 2, 3] (by decide) rfl)
                    try dsimp only
                    try simp only [Int32.reduceToInt, Int64.reduceToInt, true_or, or_true, true_and, and_true]
                    repeat' apply And.intro
                    all_goals first | assumption | omega
                  · exact absurd (by decide) c_134_42
                · refine lv_tableIn (tgt := 152) (off := 50) hx hb dX8_reaches_102 (by decide) (by decide) (by decide) (by decide) ?_
                  refine lv_aload_n hx hb dX8_reaches_152 rfl (lv_at hl 2 rfl) ?_
                  refine lv_iconst (v := 5) hx hb dX8_reaches_153 (by decide) ?_
                  refine lv_iload hx hb dX8_reaches_154 (lv_at hl 0 rfl) ?_
                  refine lv_iadd hx hb dX8_reaches_156 ?_
                  refine lv_topi (fun x_45 ex_45 => ?_)
                  obtain rfl : x_45 = 8 := ex_45.trans (by decide)
                  refine va_put (D := D) (ci := 8) (v := .int 8) (ty := .int) (C := RX8) (T := TX8) (N := 31) hx hb hts iX8_reaches_X8 tyX8 tyX8_ok nmX8 hown hK hP hD hS 0 rfl rfl 12 (by decide) (hts (.fieldLink RX8 43 "TapeCalculatorModel" "chosen" "I") (List.mem_of_getElem? (i := 1) rfl)) (fun _ h9 => h9) rfl (by decide +kernel) rfl rfl (Nat.le_of_ble_eq_true rfl) dX8_reaches_157 (fun H locs hP hD hS => ?_)
                  have hP : va_P D vwCl [(m0, .inr (8, [.ref mH, .int aM, .long aC, .int mM, .long mQ, .int oV, .int pL, .int lI, .int sW, .int dP, .int sT, .long aT, .int 8, .int u_r_7.1, .ref mI, .ref mJ, .ref mS, .ref mD, .int iH, .int aE, .int mN, .long sZ, .ref mX, .int tS, .int tA, .int tW, .ref mA, .ref mB, .ref mW, .ref mL, .int lS])), (mI, .inl (cL, 1200, .inr (.inl u_r_7.2.1))), (mJ, .inl (cI, 4, .inl (k4i u_r_7.2.2.1 u_r_7.2.2.2.1 u_r_7.2.2.2.2.1 u_r_7.2.2.2.2.2.1))), (mS, .inl (cI, 4, .inl (k4i u_r_7.2.2.2.2.2.2.1 u_r_7.2.2.2.2.2.2.2.1 u_r_7.2.2.2.2.2.2.2.2.1 u_r_7.2.2.2.2.2.2.2.2.2)))] H := hP
                  have hD : va_D A [(m0, .inr (8, [.ref mH, .int aM, .long aC, .int mM, .long mQ, .int oV, .int pL, .int lI, .int sW, .int dP, .int sT, .long aT, .int 8, .int u_r_7.1, .ref mI, .ref mJ, .ref mS, .ref mD, .int iH, .int aE, .int mN, .long sZ, .ref mX, .int tS, .int tA, .int tW, .ref mA, .ref mB, .ref mW, .ref mL, .int lS])), (mI, .inl (cL, 1200, .inr (.inl u_r_7.2.1))), (mJ, .inl (cI, 4, .inl (k4i u_r_7.2.2.1 u_r_7.2.2.2.1 u_r_7.2.2.2.2.1 u_r_7.2.2.2.2.2.1))), (mS, .inl (cI, 4, .inl (k4i u_r_7.2.2.2.2.2.2.1 u_r_7.2.2.2.2.2.2.2.1 u_r_7.2.2.2.2.2.2.2.2.1 u_r_7.2.2.2.2.2.2.2.2.2)))] := hD
                  refine lv_goto (tgt := 251) hx hb dX8_reaches_160 (by decide) ?_
                  refine lv_iconst (v := 0) hx hb dX8_reaches_251 (by decide) ?_
                  refine kIret (u := (pL, lI, dP, 8, u_r_7.1, u_r_7.2.1, u_r_7.2.2.1, u_r_7.2.2.2.1, u_r_7.2.2.2.2.1, u_r_7.2.2.2.2.2.1, u_r_7.2.2.2.2.2.2.1, u_r_7.2.2.2.2.2.2.2.1, u_r_7.2.2.2.2.2.2.2.2.1, u_r_7.2.2.2.2.2.2.2.2.2)) hx hb hr rfl hlocks hS dX8_reaches_252 ?_ (hP.sub [0, 1, 2, 3] rfl) (hD.sub [0, 1, 2, 3] (by decide) rfl)
                  try dsimp only
                  try simp only [Int32.reduceToInt, Int64.reduceToInt, true_or, or_true, true_and, and_true]
                  repeat' apply And.intro
                  all_goals first | assumption | omega
                · refine lv_tableIn (tgt := 163) (off := 61) hx hb dX8_reaches_102 (by decide) (by decide) (by decide) (by decide) ?_
                  refine lv_iload_n hx hb dX8_reaches_163 rfl (lv_at hl 1 rfl) ?_
                  refine lv_if_ne (tgt := 181) hx hb dX8_reaches_164 (by decide) (fun c_164_45 => ?_) (fun c_164_45 => ?_)
                  · exact absurd (by decide) c_164_45
                  · have t_164_45 := c_164_45
                    try simp only [kb_eq0, kb_ne0, lg_cmp_lt, lg_cmp_le, lg_cmp_gt, lg_cmp_ge, lg_cmp_eq] at t_164_45
                    try simp only [Int32.lt_iff_toInt_lt, Int32.le_iff_toInt_le, ← Int32.toInt_inj, Int64.lt_iff_toInt_lt, Int64.le_iff_toInt_le, ← Int64.toInt_inj, Int32.toInt_toInt64, Int32.reduceToInt, Int64.reduceToInt] at t_164_45
                    refine lv_aload_n hx hb dX8_reaches_167 rfl (lv_at hl 2 rfl) ?_
                    refine va_get (D := D) (ci := 8) (v := .ref mJ) (C := RX8) (T := TX8) (N := 31) hx hb hts iX8_reaches_X8 hown hK hP 0 rfl rfl 15 (by decide) (hts (.fieldLink RX8 17 "TapeCalculatorModel" "items" "[I") (List.mem_of_getElem? (i := 5) rfl)) (fun _ h9 => h9) rfl dX8_reaches_168 ?_
                    refine lv_iload hx hb dX8_reaches_171 (lv_at hl 0 rfl) ?_
                    refine lv_aload_n hx hb dX8_reaches_173 rfl (lv_at hl 2 rfl) ?_
                    refine va_get (D := D) (ci := 8) (v := .ref mS) (C := RX8) (T := TX8) (N := 31) hx hb hts iX8_reaches_X8 hown hK hP 0 rfl rfl 16 (by decide) (hts (.fieldLink RX8 20 "TapeCalculatorModel" "stands" "[I") (List.mem_of_getElem? (i := 6) rfl)) (fun _ h9 => h9) rfl dX8_reaches_174 ?_
                    refine lv_iload hx hb dX8_reaches_177 (lv_at hl 0 rfl) ?_
                    refine va_iald hx hb hK hP 3 0 rfl rfl (vp_in_iff.mpr (by decide)) dX8_reaches_179 ?_
                    refine lv_topi (fun x_47 ex_47 => ?_)
                    obtain rfl : u_r_7.2.2.2.2.2.2.2.2.2 = x_47 := ex_47.symm
                    refine va_iast hx hb hK hP hD hS 2 0 rfl rfl (vp_in_iff.mpr (by decide)) dX8_reaches_180 (fun H locs hP hD hS => ?_)
                    rw [k4i_3] at hP hD
                    have hP : va_P D vwCl [(m0, .inr (8, [.ref mH, .int aM, .long aC, .int mM, .long mQ, .int oV, .int pL, .int lI, .int sW, .int dP, .int sT, .long aT, .int cH, .int u_r_7.1, .ref mI, .ref mJ, .ref mS, .ref mD, .int iH, .int aE, .int mN, .long sZ, .ref mX, .int tS, .int tA, .int tW, .ref mA, .ref mB, .ref mW, .ref mL, .int lS])), (mI, .inl (cL, 1200, .inr (.inl u_r_7.2.1))), (mJ, .inl (cI, 4, .inl (k4i u_r_7.2.2.1 u_r_7.2.2.2.1 u_r_7.2.2.2.2.1 (u_r_7.2.2.2.2.2.2.2.2.2)))), (mS, .inl (cI, 4, .inl (k4i u_r_7.2.2.2.2.2.2.1 u_r_7.2.2.2.2.2.2.2.1 u_r_7.2.2.2.2.2.2.2.2.1 u_r_7.2.2.2.2.2.2.2.2.2)))] H := hP
                    have hD : va_D A [(m0, .inr (8, [.ref mH, .int aM, .long aC, .int mM, .long mQ, .int oV, .int pL, .int lI, .int sW, .int dP, .int sT, .long aT, .int cH, .int u_r_7.1, .ref mI, .ref mJ, .ref mS, .ref mD, .int iH, .int aE, .int mN, .long sZ, .ref mX, .int tS, .int tA, .int tW, .ref mA, .ref mB, .ref mW, .ref mL, .int lS])), (mI, .inl (cL, 1200, .inr (.inl u_r_7.2.1))), (mJ, .inl (cI, 4, .inl (k4i u_r_7.2.2.1 u_r_7.2.2.2.1 u_r_7.2.2.2.2.1 (u_r_7.2.2.2.2.2.2.2.2.2)))), (mS, .inl (cI, 4, .inl (k4i u_r_7.2.2.2.2.2.2.1 u_r_7.2.2.2.2.2.2.2.1 u_r_7.2.2.2.2.2.2.2.2.1 u_r_7.2.2.2.2.2.2.2.2.2)))] := hD
                    refine lv_aload_n hx hb dX8_reaches_181 rfl (lv_at hl 2 rfl) ?_
                    refine lv_iload_n hx hb dX8_reaches_182 rfl (lv_at hl 1 rfl) ?_
                    refine lv_if_eq (tgt := 191) hx hb dX8_reaches_183 (by decide) (fun c_183_47 => ?_) (fun c_183_47 => ?_)
                    · have t_183_47 := c_183_47
                      try simp only [kb_eq0, kb_ne0, lg_cmp_lt, lg_cmp_le, lg_cmp_gt, lg_cmp_ge, lg_cmp_eq] at t_183_47
                      try simp only [Int32.lt_iff_toInt_lt, Int32.le_iff_toInt_le, ← Int32.toInt_inj, Int64.lt_iff_toInt_lt, Int64.le_iff_toInt_le, ← Int64.toInt_inj, Int32.toInt_toInt64, Int32.reduceToInt, Int64.reduceToInt] at t_183_47
                      refine lv_bipush (v := 9) hx hb dX8_reaches_191 (by decide) ?_
                      refine lv_iload hx hb dX8_reaches_193 (lv_at hl 0 rfl) ?_
                      refine lv_iadd hx hb dX8_reaches_195 ?_
                      refine lv_topi (fun x_49 ex_49 => ?_)
                      obtain rfl : x_49 = 12 := ex_49.trans (by decide)
                      refine va_put (D := D) (ci := 8) (v := .int 12) (ty := .int) (C := RX8) (T := TX8) (N := 31) hx hb hts iX8_reaches_X8 tyX8 tyX8_ok nmX8 hown hK hP hD hS 0 rfl rfl 12 (by decide) (hts (.fieldLink RX8 43 "TapeCalculatorModel" "chosen" "I") (List.mem_of_getElem? (i := 1) rfl)) (fun _ h9 => h9) rfl (by decide +kernel) rfl rfl (Nat.le_of_ble_eq_true rfl) dX8_reaches_196 (fun H locs hP hD hS => ?_)
                      have hP : va_P D vwCl [(m0, .inr (8, [.ref mH, .int aM, .long aC, .int mM, .long mQ, .int oV, .int pL, .int lI, .int sW, .int dP, .int sT, .long aT, .int 12, .int u_r_7.1, .ref mI, .ref mJ, .ref mS, .ref mD, .int iH, .int aE, .int mN, .long sZ, .ref mX, .int tS, .int tA, .int tW, .ref mA, .ref mB, .ref mW, .ref mL, .int lS])), (mI, .inl (cL, 1200, .inr (.inl u_r_7.2.1))), (mJ, .inl (cI, 4, .inl (k4i u_r_7.2.2.1 u_r_7.2.2.2.1 u_r_7.2.2.2.2.1 (u_r_7.2.2.2.2.2.2.2.2.2)))), (mS, .inl (cI, 4, .inl (k4i u_r_7.2.2.2.2.2.2.1 u_r_7.2.2.2.2.2.2.2.1 u_r_7.2.2.2.2.2.2.2.2.1 u_r_7.2.2.2.2.2.2.2.2.2)))] H := hP
                      have hD : va_D A [(m0, .inr (8, [.ref mH, .int aM, .long aC, .int mM, .long mQ, .int oV, .int pL, .int lI, .int sW, .int dP, .int sT, .long aT, .int 12, .int u_r_7.1, .ref mI, .ref mJ, .ref mS, .ref mD, .int iH, .int aE, .int mN, .long sZ, .ref mX, .int tS, .int tA, .int tW, .ref mA, .ref mB, .ref mW, .ref mL, .int lS])), (mI, .inl (cL, 1200, .inr (.inl u_r_7.2.1))), (mJ, .inl (cI, 4, .inl (k4i u_r_7.2.2.1 u_r_7.2.2.2.1 u_r_7.2.2.2.2.1 (u_r_7.2.2.2.2.2.2.2.2.2)))), (mS, .inl (cI, 4, .inl (k4i u_r_7.2.2.2.2.2.2.1 u_r_7.2.2.2.2.2.2.2.1 u_r_7.2.2.2.2.2.2.2.2.1 u_r_7.2.2.2.2.2.2.2.2.2)))] := hD
                      refine lv_goto (tgt := 251) hx hb dX8_reaches_199 (by decide) ?_
                      refine lv_iconst (v := 0) hx hb dX8_reaches_251 (by decide) ?_
                      refine kIret (u := (pL, lI, dP, 12, u_r_7.1, u_r_7.2.1, u_r_7.2.2.1, u_r_7.2.2.2.1, u_r_7.2.2.2.2.1, (u_r_7.2.2.2.2.2.2.2.2.2), u_r_7.2.2.2.2.2.2.1, u_r_7.2.2.2.2.2.2.2.1, u_r_7.2.2.2.2.2.2.2.2.1, u_r_7.2.2.2.2.2.2.2.2.2)) hx hb hr rfl hlocks hS dX8_reaches_252 ?_ (hP.sub [0, 1, 2, 3] rfl) (hD.sub [0, 1, 2, 3] (by decide) rfl)
                      try dsimp only
                      try simp only [Int32.reduceToInt, Int64.reduceToInt, true_or, or_true, true_and, and_true]
                      repeat' apply And.intro
                      all_goals first | assumption | omega
                    · exact absurd (by decide) c_183_47
                · refine lv_tableIn (tgt := 202) (off := 100) hx hb dX8_reaches_102 (by decide) (by decide) (by decide) (by decide) ?_
                  refine lv_aload_n hx hb dX8_reaches_202 rfl (lv_at hl 2 rfl) ?_
                  refine va_get (D := D) (ci := 8) (v := .ref mJ) (C := RX8) (T := TX8) (N := 31) hx hb hts iX8_reaches_X8 hown hK hP 0 rfl rfl 15 (by decide) (hts (.fieldLink RX8 17 "TapeCalculatorModel" "items" "[I") (List.mem_of_getElem? (i := 5) rfl)) (fun _ h9 => h9) rfl dX8_reaches_203 ?_
                  refine lv_iload hx hb dX8_reaches_206 (lv_at hl 0 rfl) ?_
                  refine lv_aload_n hx hb dX8_reaches_208 rfl (lv_at hl 2 rfl) ?_
                  refine va_get (D := D) (ci := 8) (v := .ref mS) (C := RX8) (T := TX8) (N := 31) hx hb hts iX8_reaches_X8 hown hK hP 0 rfl rfl 16 (by decide) (hts (.fieldLink RX8 20 "TapeCalculatorModel" "stands" "[I") (List.mem_of_getElem? (i := 6) rfl)) (fun _ h9 => h9) rfl dX8_reaches_209 ?_
                  refine lv_iload hx hb dX8_reaches_212 (lv_at hl 0 rfl) ?_
                  refine va_iald hx hb hK hP 3 0 rfl rfl (vp_in_iff.mpr (by decide)) dX8_reaches_214 ?_
                  refine lv_topi (fun x_50 ex_50 => ?_)
                  obtain rfl : u_r_7.2.2.2.2.2.2.2.2.2 = x_50 := ex_50.symm
                  refine va_iast hx hb hK hP hD hS 2 0 rfl rfl (vp_in_iff.mpr (by decide)) dX8_reaches_215 (fun H locs hP hD hS => ?_)
                  rw [k4i_3] at hP hD
                  have hP : va_P D vwCl [(m0, .inr (8, [.ref mH, .int aM, .long aC, .int mM, .long mQ, .int oV, .int pL, .int lI, .int sW, .int dP, .int sT, .long aT, .int cH, .int u_r_7.1, .ref mI, .ref mJ, .ref mS, .ref mD, .int iH, .int aE, .int mN, .long sZ, .ref mX, .int tS, .int tA, .int tW, .ref mA, .ref mB, .ref mW, .ref mL, .int lS])), (mI, .inl (cL, 1200, .inr (.inl u_r_7.2.1))), (mJ, .inl (cI, 4, .inl (k4i u_r_7.2.2.1 u_r_7.2.2.2.1 u_r_7.2.2.2.2.1 (u_r_7.2.2.2.2.2.2.2.2.2)))), (mS, .inl (cI, 4, .inl (k4i u_r_7.2.2.2.2.2.2.1 u_r_7.2.2.2.2.2.2.2.1 u_r_7.2.2.2.2.2.2.2.2.1 u_r_7.2.2.2.2.2.2.2.2.2)))] H := hP
                  have hD : va_D A [(m0, .inr (8, [.ref mH, .int aM, .long aC, .int mM, .long mQ, .int oV, .int pL, .int lI, .int sW, .int dP, .int sT, .long aT, .int cH, .int u_r_7.1, .ref mI, .ref mJ, .ref mS, .ref mD, .int iH, .int aE, .int mN, .long sZ, .ref mX, .int tS, .int tA, .int tW, .ref mA, .ref mB, .ref mW, .ref mL, .int lS])), (mI, .inl (cL, 1200, .inr (.inl u_r_7.2.1))), (mJ, .inl (cI, 4, .inl (k4i u_r_7.2.2.1 u_r_7.2.2.2.1 u_r_7.2.2.2.2.1 (u_r_7.2.2.2.2.2.2.2.2.2)))), (mS, .inl (cI, 4, .inl (k4i u_r_7.2.2.2.2.2.2.1 u_r_7.2.2.2.2.2.2.2.1 u_r_7.2.2.2.2.2.2.2.2.1 u_r_7.2.2.2.2.2.2.2.2.2)))] := hD
                  refine lv_aload_n hx hb dX8_reaches_216 rfl (lv_at hl 2 rfl) ?_
                  refine lv_iload hx hb dX8_reaches_217 (lv_at hl 0 rfl) ?_
                  refine lv_ldc2 (v := (-3)) hx hb hown (hts (.constantLong RX8 113 (-3)) (List.mem_of_getElem? (i := 7) rfl)) dX8_reaches_219 ?_
                  refine kCallI (wr := []) (va_runV (As := [.int 3, .long (-3)]) (rest := []) ⟨hx, hb, hml, hown, hts⟩ (q_puts l D cI cL cB cZ cT _ m0 mH mI mJ mS mD mX mA mB mW mL aM aC mM mQ oV pL lI sW dP sT aT cH (u_r_7.1) iH aE mN sZ tS tA tW lS (u_r_7.2.1) (u_r_7.2.2.1) (u_r_7.2.2.2.1) (u_r_7.2.2.2.2.1) (u_r_7.2.2.2.2.2.2.2.2.2) (u_r_7.2.2.2.2.2.2.1) (u_r_7.2.2.2.2.2.2.2.1) (u_r_7.2.2.2.2.2.2.2.2.1) (u_r_7.2.2.2.2.2.2.2.2.2) 3 (-3) (by omega) (by decide)) (cwV 2 hts gX8_reaches_X8_puts rfl rfl rfl (by decide +kernel) ⟨Nat.le_of_ble_eq_true rfl, Nat.le_of_ble_eq_true rfl⟩) (kPreV hG hP hD [0, 1, 2, 3] rfl (by decide) 0 8 rfl rfl rfl) rfl rfl hl.1 rfl (lv_room (Nat.le_of_ble_eq_true rfl)) dX8_reaches_222 ⟨Nat.le_of_ble_eq_true rfl, Nat.le_of_ble_eq_true rfl⟩) hA hP hD hS [0, 1, 2, 3] [] rfl rfl (by decide) (by decide) (fun r_51 u_r_51 H locs wr_51 hP hD hS => ?_)
                  have hP : va_P D vwCl [(m0, .inr (8, [.ref mH, .int aM, .long aC, .int mM, .long mQ, .int oV, .int pL, .int lI, .int sW, .int dP, .int sT, .long aT, .int cH, .int u_r_7.1, .ref mI, .ref mJ, .ref mS, .ref mD, .int iH, .int aE, .int mN, .long sZ, .ref mX, .int tS, .int tA, .int tW, .ref mA, .ref mB, .ref mW, .ref mL, .int lS])), (mI, .inl (cL, 1200, .inr (.inl u_r_51.1))), (mJ, .inl (cI, 4, .inl (k4i u_r_51.2.1 u_r_51.2.2.1 u_r_51.2.2.2.1 u_r_51.2.2.2.2.1))), (mS, .inl (cI, 4, .inl (k4i u_r_51.2.2.2.2.2.1 u_r_51.2.2.2.2.2.2.1 u_r_51.2.2.2.2.2.2.2.1 u_r_51.2.2.2.2.2.2.2.2)))] H := hP
                  have hD : va_D A [(m0, .inr (8, [.ref mH, .int aM, .long aC, .int mM, .long mQ, .int oV, .int pL, .int lI, .int sW, .int dP, .int sT, .long aT, .int cH, .int u_r_7.1, .ref mI, .ref mJ, .ref mS, .ref mD, .int iH, .int aE, .int mN, .long sZ, .ref mX, .int tS, .int tA, .int tW, .ref mA, .ref mB, .ref mW, .ref mL, .int lS])), (mI, .inl (cL, 1200, .inr (.inl u_r_51.1))), (mJ, .inl (cI, 4, .inl (k4i u_r_51.2.1 u_r_51.2.2.1 u_r_51.2.2.2.1 u_r_51.2.2.2.2.1))), (mS, .inl (cI, 4, .inl (k4i u_r_51.2.2.2.2.2.1 u_r_51.2.2.2.2.2.2.1 u_r_51.2.2.2.2.2.2.2.1 u_r_51.2.2.2.2.2.2.2.2)))] := hD
                  try dsimp only at wr_51
                  try simp only [Int32.reduceToInt, Int64.reduceToInt] at wr_51
                  refine lv_if_ne (tgt := 230) hx hb dX8_reaches_225 (by decide) (fun c_225_51 => ?_) (fun c_225_51 => ?_)
                  · have t_225_51 := c_225_51
                    try simp only [kb_eq0, kb_ne0, lg_cmp_lt, lg_cmp_le, lg_cmp_gt, lg_cmp_ge, lg_cmp_eq] at t_225_51
                    try simp only [Int32.lt_iff_toInt_lt, Int32.le_iff_toInt_le, ← Int32.toInt_inj, Int64.lt_iff_toInt_lt, Int64.le_iff_toInt_le, ← Int64.toInt_inj, Int32.toInt_toInt64, Int32.reduceToInt, Int64.reduceToInt] at t_225_51
                    refine lv_aload_n hx hb dX8_reaches_230 rfl (lv_at hl 2 rfl) ?_
                    refine lv_iconst (v := 0) hx hb dX8_reaches_231 (by decide) ?_
                    refine va_put (D := D) (ci := 8) (v := .int 0) (ty := .int) (C := RX8) (T := TX8) (N := 31) hx hb hts iX8_reaches_X8 tyX8 tyX8_ok nmX8 hown hK hP hD hS 0 rfl rfl 12 (by decide) (hts (.fieldLink RX8 43 "TapeCalculatorModel" "chosen" "I") (List.mem_of_getElem? (i := 1) rfl)) (fun _ h9 => h9) rfl (by decide +kernel) rfl rfl (Nat.le_of_ble_eq_true rfl) dX8_reaches_232 (fun H locs hP hD hS => ?_)
                    have hP : va_P D vwCl [(m0, .inr (8, [.ref mH, .int aM, .long aC, .int mM, .long mQ, .int oV, .int pL, .int lI, .int sW, .int dP, .int sT, .long aT, .int 0, .int u_r_7.1, .ref mI, .ref mJ, .ref mS, .ref mD, .int iH, .int aE, .int mN, .long sZ, .ref mX, .int tS, .int tA, .int tW, .ref mA, .ref mB, .ref mW, .ref mL, .int lS])), (mI, .inl (cL, 1200, .inr (.inl u_r_51.1))), (mJ, .inl (cI, 4, .inl (k4i u_r_51.2.1 u_r_51.2.2.1 u_r_51.2.2.2.1 u_r_51.2.2.2.2.1))), (mS, .inl (cI, 4, .inl (k4i u_r_51.2.2.2.2.2.1 u_r_51.2.2.2.2.2.2.1 u_r_51.2.2.2.2.2.2.2.1 u_r_51.2.2.2.2.2.2.2.2)))] H := hP
                    have hD : va_D A [(m0, .inr (8, [.ref mH, .int aM, .long aC, .int mM, .long mQ, .int oV, .int pL, .int lI, .int sW, .int dP, .int sT, .long aT, .int 0, .int u_r_7.1, .ref mI, .ref mJ, .ref mS, .ref mD, .int iH, .int aE, .int mN, .long sZ, .ref mX, .int tS, .int tA, .int tW, .ref mA, .ref mB, .ref mW, .ref mL, .int lS])), (mI, .inl (cL, 1200, .inr (.inl u_r_51.1))), (mJ, .inl (cI, 4, .inl (k4i u_r_51.2.1 u_r_51.2.2.1 u_r_51.2.2.2.1 u_r_51.2.2.2.2.1))), (mS, .inl (cI, 4, .inl (k4i u_r_51.2.2.2.2.2.1 u_r_51.2.2.2.2.2.2.1 u_r_51.2.2.2.2.2.2.2.1 u_r_51.2.2.2.2.2.2.2.2)))] := hD
                    refine lv_goto (tgt := 251) hx hb dX8_reaches_235 (by decide) ?_
                    refine lv_iconst (v := 0) hx hb dX8_reaches_251 (by decide) ?_
                    refine kIret (u := (pL, lI, dP, 0, u_r_7.1, u_r_51.1, u_r_51.2.1, u_r_51.2.2.1, u_r_51.2.2.2.1, u_r_51.2.2.2.2.1, u_r_51.2.2.2.2.2.1, u_r_51.2.2.2.2.2.2.1, u_r_51.2.2.2.2.2.2.2.1, u_r_51.2.2.2.2.2.2.2.2)) hx hb hr rfl hlocks hS dX8_reaches_252 ?_ (hP.sub [0, 1, 2, 3] rfl) (hD.sub [0, 1, 2, 3] (by decide) rfl)
                    try dsimp only
                    try simp only [Int32.reduceToInt, Int64.reduceToInt, true_or, or_true, true_and, and_true]
                    repeat' apply And.intro
                    all_goals first | assumption | omega
                  · have t_225_51 := c_225_51
                    try simp only [kb_eq0, kb_ne0, lg_cmp_lt, lg_cmp_le, lg_cmp_gt, lg_cmp_ge, lg_cmp_eq] at t_225_51
                    try simp only [Int32.lt_iff_toInt_lt, Int32.le_iff_toInt_le, ← Int32.toInt_inj, Int64.lt_iff_toInt_lt, Int64.le_iff_toInt_le, ← Int64.toInt_inj, Int32.toInt_toInt64, Int32.reduceToInt, Int64.reduceToInt] at t_225_51
                    refine lv_iconst (v := 5) hx hb dX8_reaches_228 (by decide) ?_
                    refine kIret (u := (pL, lI, dP, cH, u_r_7.1, u_r_51.1, u_r_51.2.1, u_r_51.2.2.1, u_r_51.2.2.2.1, u_r_51.2.2.2.2.1, u_r_51.2.2.2.2.2.1, u_r_51.2.2.2.2.2.2.1, u_r_51.2.2.2.2.2.2.2.1, u_r_51.2.2.2.2.2.2.2.2)) hx hb hr rfl hlocks hS dX8_reaches_229 ?_ (hP.sub [0, 1, 2, 3] rfl) (hD.sub [0, 1, 2, 3] (by decide) rfl)
                    try dsimp only
                    try simp only [Int32.reduceToInt, Int64.reduceToInt, true_or, or_true, true_and, and_true]
                    repeat' apply And.intro
                    all_goals first | assumption | omega
            · have t_89_7 := c_89_7
              try simp only [kb_eq0, kb_ne0, lg_cmp_lt, lg_cmp_le, lg_cmp_gt, lg_cmp_ge, lg_cmp_eq] at t_89_7
              try simp only [Int32.lt_iff_toInt_lt, Int32.le_iff_toInt_le, ← Int32.toInt_inj, Int64.lt_iff_toInt_lt, Int64.le_iff_toInt_le, ← Int64.toInt_inj, Int32.toInt_toInt64, Int32.reduceToInt, Int64.reduceToInt] at t_89_7
              refine lv_iconst (v := 5) hx hb dX8_reaches_92 (by decide) ?_
              refine kIret (u := (pL, lI, dP, cH, u_r_7.1, u_r_7.2.1, u_r_7.2.2.1, u_r_7.2.2.2.1, u_r_7.2.2.2.2.1, u_r_7.2.2.2.2.2.1, u_r_7.2.2.2.2.2.2.1, u_r_7.2.2.2.2.2.2.2.1, u_r_7.2.2.2.2.2.2.2.2.1, u_r_7.2.2.2.2.2.2.2.2.2)) hx hb hr rfl hlocks hS dX8_reaches_93 ?_ (hP.sub [0, 1, 2, 3] rfl) (hD.sub [0, 1, 2, 3] (by decide) rfl)
              try dsimp only
              try simp only [Int32.reduceToInt, Int64.reduceToInt, true_or, or_true, true_and, and_true]
              repeat' apply And.intro
              all_goals first | assumption | omega
          · have t_80_5 := c_80_5
            try simp only [kb_eq0, kb_ne0, lg_cmp_lt, lg_cmp_le, lg_cmp_gt, lg_cmp_ge, lg_cmp_eq] at t_80_5
            try simp only [Int32.lt_iff_toInt_lt, Int32.le_iff_toInt_le, ← Int32.toInt_inj, Int64.lt_iff_toInt_lt, Int64.le_iff_toInt_le, ← Int64.toInt_inj, Int32.toInt_toInt64, Int32.reduceToInt, Int64.reduceToInt] at t_80_5
            refine lv_iconst (v := 4) hx hb dX8_reaches_83 (by decide) ?_
            refine kIret (u := (pL, lI, dP, cH, iW, fI, j0, j1, j2, j3, s0, s1, s2, s3)) hx hb hr rfl hlocks hS dX8_reaches_84 ?_ (hP.sub [0, 1, 2, 3] rfl) (hD.sub [0, 1, 2, 3] (by decide) rfl)
            try dsimp only
            try simp only [Int32.reduceToInt, Int64.reduceToInt, true_or, or_true, true_and, and_true]
            repeat' apply And.intro
            all_goals first | assumption | omega
      · have t_44_2 := c_44_2
        try simp only [kb_eq0, kb_ne0, lg_cmp_lt, lg_cmp_le, lg_cmp_gt, lg_cmp_ge, lg_cmp_eq] at t_44_2
        try simp only [Int32.lt_iff_toInt_lt, Int32.le_iff_toInt_le, ← Int32.toInt_inj, Int64.lt_iff_toInt_lt, Int64.le_iff_toInt_le, ← Int64.toInt_inj, Int32.toInt_toInt64, Int32.reduceToInt, Int64.reduceToInt] at t_44_2
        refine lv_iload_n hx hb dX8_reaches_47 rfl (lv_at hl 1 rfl) ?_
        refine lv_bipush (v := 24) hx hb dX8_reaches_48 (by decide) ?_
        refine lv_icmp_eq (tgt := 59) hx hb dX8_reaches_50 (by decide) (fun c_50_52 => ?_) (fun c_50_52 => ?_)
        · have t_50_52 := c_50_52
          try simp only [kb_eq0, kb_ne0, lg_cmp_lt, lg_cmp_le, lg_cmp_gt, lg_cmp_ge, lg_cmp_eq] at t_50_52
          try simp only [Int32.lt_iff_toInt_lt, Int32.le_iff_toInt_le, ← Int32.toInt_inj, Int64.lt_iff_toInt_lt, Int64.le_iff_toInt_le, ← Int64.toInt_inj, Int32.toInt_toInt64, Int32.reduceToInt, Int64.reduceToInt] at t_50_52
          refine lv_iconst (v := 1) hx hb dX8_reaches_59 (by decide) ?_
          refine lv_goto (tgt := 64) hx hb dX8_reaches_60 (by decide) ?_
          refine lv_istore_n (lv' := [(3, .int 1), (0, .ref m0), (1, .int a), (2, .int b)]) hx hb dX8_reaches_64 rfl hl (by decide) rfl (fun ls hl => ?_)
          refine lv_iload_n hx hb dX8_reaches_65 rfl (lv_at hl 0 rfl) ?_
          refine lv_if_ne (tgt := 85) hx hb dX8_reaches_66 (by decide) (fun c_66_53 => ?_) (fun c_66_53 => ?_)
          · have t_66_53 := c_66_53
            try simp only [kb_eq0, kb_ne0, lg_cmp_lt, lg_cmp_le, lg_cmp_gt, lg_cmp_ge, lg_cmp_eq] at t_66_53
            try simp only [Int32.lt_iff_toInt_lt, Int32.le_iff_toInt_le, ← Int32.toInt_inj, Int64.lt_iff_toInt_lt, Int64.le_iff_toInt_le, ← Int64.toInt_inj, Int32.toInt_toInt64, Int32.reduceToInt, Int64.reduceToInt] at t_66_53
            refine lv_aload_n hx hb dX8_reaches_85 rfl (lv_at hl 1 rfl) ?_
            refine kCallI (wr := []) (va_runV (As := []) (rest := []) ⟨hx, hb, hml, hown, hts⟩ (q_endsRecord l D cI cL cB cZ cT _ m0 mH mI mJ mS mD mX mA mB mW mL aM aC mM mQ oV pL lI sW dP sT aT cH iW iH aE mN sZ tS tA tW lS fI j0 j1 j2 j3 s0 s1 s2 s3 (by omega) (by omega)) (cwV 0 hts gX8_reaches_X8_endsRecord rfl rfl rfl (by decide +kernel) ⟨Nat.le_of_ble_eq_true rfl, Nat.le_of_ble_eq_true rfl⟩) (kPreV hG hP hD [0, 1, 2, 3] rfl (by decide) 0 8 rfl rfl rfl) rfl rfl hl.1 rfl (lv_room (Nat.le_of_ble_eq_true rfl)) dX8_reaches_86 ⟨Nat.le_of_ble_eq_true rfl, Nat.le_of_ble_eq_true rfl⟩) hA hP hD hS [0, 1, 2, 3] [] rfl rfl (by decide) (by decide) (fun r_55 u_r_55 H locs wr_55 hP hD hS => ?_)
            have hP : va_P D vwCl [(m0, .inr (8, [.ref mH, .int aM, .long aC, .int mM, .long mQ, .int oV, .int pL, .int lI, .int sW, .int dP, .int sT, .long aT, .int cH, .int u_r_55.1, .ref mI, .ref mJ, .ref mS, .ref mD, .int iH, .int aE, .int mN, .long sZ, .ref mX, .int tS, .int tA, .int tW, .ref mA, .ref mB, .ref mW, .ref mL, .int lS])), (mI, .inl (cL, 1200, .inr (.inl u_r_55.2.1))), (mJ, .inl (cI, 4, .inl (k4i u_r_55.2.2.1 u_r_55.2.2.2.1 u_r_55.2.2.2.2.1 u_r_55.2.2.2.2.2.1))), (mS, .inl (cI, 4, .inl (k4i u_r_55.2.2.2.2.2.2.1 u_r_55.2.2.2.2.2.2.2.1 u_r_55.2.2.2.2.2.2.2.2.1 u_r_55.2.2.2.2.2.2.2.2.2)))] H := hP
            have hD : va_D A [(m0, .inr (8, [.ref mH, .int aM, .long aC, .int mM, .long mQ, .int oV, .int pL, .int lI, .int sW, .int dP, .int sT, .long aT, .int cH, .int u_r_55.1, .ref mI, .ref mJ, .ref mS, .ref mD, .int iH, .int aE, .int mN, .long sZ, .ref mX, .int tS, .int tA, .int tW, .ref mA, .ref mB, .ref mW, .ref mL, .int lS])), (mI, .inl (cL, 1200, .inr (.inl u_r_55.2.1))), (mJ, .inl (cI, 4, .inl (k4i u_r_55.2.2.1 u_r_55.2.2.2.1 u_r_55.2.2.2.2.1 u_r_55.2.2.2.2.2.1))), (mS, .inl (cI, 4, .inl (k4i u_r_55.2.2.2.2.2.2.1 u_r_55.2.2.2.2.2.2.2.1 u_r_55.2.2.2.2.2.2.2.2.1 u_r_55.2.2.2.2.2.2.2.2.2)))] := hD
            try dsimp only at wr_55
            try simp only [Int32.reduceToInt, Int64.reduceToInt] at wr_55
            refine lv_if_ne (tgt := 94) hx hb dX8_reaches_89 (by decide) (fun c_89_55 => ?_) (fun c_89_55 => ?_)
            · have t_89_55 := c_89_55
              try simp only [kb_eq0, kb_ne0, lg_cmp_lt, lg_cmp_le, lg_cmp_gt, lg_cmp_ge, lg_cmp_eq] at t_89_55
              try simp only [Int32.lt_iff_toInt_lt, Int32.le_iff_toInt_le, ← Int32.toInt_inj, Int64.lt_iff_toInt_lt, Int64.le_iff_toInt_le, ← Int64.toInt_inj, Int32.toInt_toInt64, Int32.reduceToInt, Int64.reduceToInt] at t_89_55
              obtain rfl : a = 24 := k_inj (by simp only [Int32.reduceToInt]; omega)
              obtain rfl : b = 128 := k_inj (by simp only [Int32.reduceToInt]; omega)
              refine lv_iload_n hx hb dX8_reaches_94 rfl (lv_at hl 3 rfl) ?_
              refine lv_sipush (v := 256) hx hb dX8_reaches_95 (by decide) ?_
              refine lv_isub hx hb dX8_reaches_98 ?_
              refine lv_topi (fun x_57 ex_57 => ?_)
              obtain rfl : x_57 = (-128) := ex_57.trans (by decide)
              refine lv_istore (lv' := [(4, .int (-128)), (3, .int 1), (0, .ref m0), (1, .int 24), (2, .int 128)]) hx hb dX8_reaches_99 hl (by decide) rfl (fun ls hl => ?_)
              refine lv_iload_n hx hb dX8_reaches_101 rfl (lv_at hl 3 rfl) ?_
              refine lv_tableIn (tgt := 132) (off := 30) hx hb dX8_reaches_102 (by decide) (by decide) (by decide) (by decide) ?_
              refine lv_aload_n hx hb dX8_reaches_132 rfl (lv_at hl 2 rfl) ?_
              refine lv_iload_n hx hb dX8_reaches_133 rfl (lv_at hl 1 rfl) ?_
              refine lv_if_eq (tgt := 142) hx hb dX8_reaches_134 (by decide) (fun c_134_57 => ?_) (fun c_134_57 => ?_)
              · exact absurd c_134_57 (by decide)
              · have t_134_57 := c_134_57
                try simp only [kb_eq0, kb_ne0, lg_cmp_lt, lg_cmp_le, lg_cmp_gt, lg_cmp_ge, lg_cmp_eq] at t_134_57
                try simp only [Int32.lt_iff_toInt_lt, Int32.le_iff_toInt_le, ← Int32.toInt_inj, Int64.lt_iff_toInt_lt, Int64.le_iff_toInt_le, ← Int64.toInt_inj, Int32.toInt_toInt64, Int32.reduceToInt, Int64.reduceToInt] at t_134_57
                refine lv_bipush (v := 13) hx hb dX8_reaches_137 (by decide) ?_
                refine lv_goto (tgt := 146) hx hb dX8_reaches_139 (by decide) ?_
                refine va_put (D := D) (ci := 8) (v := .int 13) (ty := .int) (C := RX8) (T := TX8) (N := 31) hx hb hts iX8_reaches_X8 tyX8 tyX8_ok nmX8 hown hK hP hD hS 0 rfl rfl 12 (by decide) (hts (.fieldLink RX8 43 "TapeCalculatorModel" "chosen" "I") (List.mem_of_getElem? (i := 1) rfl)) (fun _ h9 => h9) rfl (by decide +kernel) rfl rfl (Nat.le_of_ble_eq_true rfl) dX8_reaches_146 (fun H locs hP hD hS => ?_)
                have hP : va_P D vwCl [(m0, .inr (8, [.ref mH, .int aM, .long aC, .int mM, .long mQ, .int oV, .int pL, .int lI, .int sW, .int dP, .int sT, .long aT, .int 13, .int u_r_55.1, .ref mI, .ref mJ, .ref mS, .ref mD, .int iH, .int aE, .int mN, .long sZ, .ref mX, .int tS, .int tA, .int tW, .ref mA, .ref mB, .ref mW, .ref mL, .int lS])), (mI, .inl (cL, 1200, .inr (.inl u_r_55.2.1))), (mJ, .inl (cI, 4, .inl (k4i u_r_55.2.2.1 u_r_55.2.2.2.1 u_r_55.2.2.2.2.1 u_r_55.2.2.2.2.2.1))), (mS, .inl (cI, 4, .inl (k4i u_r_55.2.2.2.2.2.2.1 u_r_55.2.2.2.2.2.2.2.1 u_r_55.2.2.2.2.2.2.2.2.1 u_r_55.2.2.2.2.2.2.2.2.2)))] H := hP
                have hD : va_D A [(m0, .inr (8, [.ref mH, .int aM, .long aC, .int mM, .long mQ, .int oV, .int pL, .int lI, .int sW, .int dP, .int sT, .long aT, .int 13, .int u_r_55.1, .ref mI, .ref mJ, .ref mS, .ref mD, .int iH, .int aE, .int mN, .long sZ, .ref mX, .int tS, .int tA, .int tW, .ref mA, .ref mB, .ref mW, .ref mL, .int lS])), (mI, .inl (cL, 1200, .inr (.inl u_r_55.2.1))), (mJ, .inl (cI, 4, .inl (k4i u_r_55.2.2.1 u_r_55.2.2.2.1 u_r_55.2.2.2.2.1 u_r_55.2.2.2.2.2.1))), (mS, .inl (cI, 4, .inl (k4i u_r_55.2.2.2.2.2.2.1 u_r_55.2.2.2.2.2.2.2.1 u_r_55.2.2.2.2.2.2.2.2.1 u_r_55.2.2.2.2.2.2.2.2.2)))] := hD
                refine lv_goto (tgt := 251) hx hb dX8_reaches_149 (by decide) ?_
                refine lv_iconst (v := 0) hx hb dX8_reaches_251 (by decide) ?_
                refine kIret (u := (pL, lI, dP, 13, u_r_55.1, u_r_55.2.1, u_r_55.2.2.1, u_r_55.2.2.2.1, u_r_55.2.2.2.2.1, u_r_55.2.2.2.2.2.1, u_r_55.2.2.2.2.2.2.1, u_r_55.2.2.2.2.2.2.2.1, u_r_55.2.2.2.2.2.2.2.2.1, u_r_55.2.2.2.2.2.2.2.2.2)) hx hb hr rfl hlocks hS dX8_reaches_252 ?_ (hP.sub [0, 1, 2, 3] rfl) (hD.sub [0, 1, 2, 3] (by decide) rfl)
                try dsimp only
                try simp only [Int32.reduceToInt, Int64.reduceToInt, true_or, or_true, true_and, and_true]
                repeat' apply And.intro
                all_goals first | assumption | omega
            · have t_89_55 := c_89_55
              try simp only [kb_eq0, kb_ne0, lg_cmp_lt, lg_cmp_le, lg_cmp_gt, lg_cmp_ge, lg_cmp_eq] at t_89_55
              try simp only [Int32.lt_iff_toInt_lt, Int32.le_iff_toInt_le, ← Int32.toInt_inj, Int64.lt_iff_toInt_lt, Int64.le_iff_toInt_le, ← Int64.toInt_inj, Int32.toInt_toInt64, Int32.reduceToInt, Int64.reduceToInt] at t_89_55
              refine lv_iconst (v := 5) hx hb dX8_reaches_92 (by decide) ?_
              refine kIret (u := (pL, lI, dP, cH, u_r_55.1, u_r_55.2.1, u_r_55.2.2.1, u_r_55.2.2.2.1, u_r_55.2.2.2.2.1, u_r_55.2.2.2.2.2.1, u_r_55.2.2.2.2.2.2.1, u_r_55.2.2.2.2.2.2.2.1, u_r_55.2.2.2.2.2.2.2.2.1, u_r_55.2.2.2.2.2.2.2.2.2)) hx hb hr rfl hlocks hS dX8_reaches_93 ?_ (hP.sub [0, 1, 2, 3] rfl) (hD.sub [0, 1, 2, 3] (by decide) rfl)
              try dsimp only
              try simp only [Int32.reduceToInt, Int64.reduceToInt, true_or, or_true, true_and, and_true]
              repeat' apply And.intro
              all_goals first | assumption | omega
          · exact absurd c_66_53 (by decide)
        · have t_50_52 := c_50_52
          try simp only [kb_eq0, kb_ne0, lg_cmp_lt, lg_cmp_le, lg_cmp_gt, lg_cmp_ge, lg_cmp_eq] at t_50_52
          try simp only [Int32.lt_iff_toInt_lt, Int32.le_iff_toInt_le, ← Int32.toInt_inj, Int64.lt_iff_toInt_lt, Int64.le_iff_toInt_le, ← Int64.toInt_inj, Int32.toInt_toInt64, Int32.reduceToInt, Int64.reduceToInt] at t_50_52
          refine lv_iload_n hx hb dX8_reaches_53 rfl (lv_at hl 1 rfl) ?_
          refine lv_bipush (v := 26) hx hb dX8_reaches_54 (by decide) ?_
          refine lv_icmp_ne (tgt := 63) hx hb dX8_reaches_56 (by decide) (fun c_56_58 => ?_) (fun c_56_58 => ?_)
          · have t_56_58 := c_56_58
            try simp only [kb_eq0, kb_ne0, lg_cmp_lt, lg_cmp_le, lg_cmp_gt, lg_cmp_ge, lg_cmp_eq] at t_56_58
            try simp only [Int32.lt_iff_toInt_lt, Int32.le_iff_toInt_le, ← Int32.toInt_inj, Int64.lt_iff_toInt_lt, Int64.le_iff_toInt_le, ← Int64.toInt_inj, Int32.toInt_toInt64, Int32.reduceToInt, Int64.reduceToInt] at t_56_58
            refine lv_iconst (v := 0) hx hb dX8_reaches_63 (by decide) ?_
            refine lv_istore_n (lv' := [(3, .int 0), (0, .ref m0), (1, .int a), (2, .int b)]) hx hb dX8_reaches_64 rfl hl (by decide) rfl (fun ls hl => ?_)
            refine lv_iload_n hx hb dX8_reaches_65 rfl (lv_at hl 0 rfl) ?_
            refine lv_if_ne (tgt := 85) hx hb dX8_reaches_66 (by decide) (fun c_66_59 => ?_) (fun c_66_59 => ?_)
            · exact absurd (by decide) c_66_59
            · have t_66_59 := c_66_59
              try simp only [kb_eq0, kb_ne0, lg_cmp_lt, lg_cmp_le, lg_cmp_gt, lg_cmp_ge, lg_cmp_eq] at t_66_59
              try simp only [Int32.lt_iff_toInt_lt, Int32.le_iff_toInt_le, ← Int32.toInt_inj, Int64.lt_iff_toInt_lt, Int64.le_iff_toInt_le, ← Int64.toInt_inj, Int32.toInt_toInt64, Int32.reduceToInt, Int64.reduceToInt] at t_66_59
              refine lv_iload_n hx hb dX8_reaches_69 rfl (lv_at hl 3 rfl) ?_
              refine lv_i2l hx hb dX8_reaches_70 rfl ?_
              refine lv_ldc2 (v := 256) hx hb hown (hts (.constantLong RX8 228 (256)) (List.mem_of_getElem? (i := 3) rfl)) dX8_reaches_71 ?_
              refine lv_ldc2 (v := 259) hx hb hown (hts (.constantLong RX8 230 (259)) (List.mem_of_getElem? (i := 4) rfl)) dX8_reaches_74 ?_
              refine kCallI (wr := [(m0, .inr (8, [.ref mH, .int aM, .long aC, .int mM, .long mQ, .int oV, .int pL, .int lI, .int sW, .int dP, .int sT, .long aT, .int cH, .int iW, .ref mI, .ref mJ, .ref mS, .ref mD, .int iH, .int aE, .int mN, .long sZ, .ref mX, .int tS, .int tA, .int tW, .ref mA, .ref mB, .ref mW, .ref mL, .int lS])), (mI, .inl (cL, 1200, .inr (.inl fI))), (mJ, .inl (cI, 4, .inl (k4i j0 j1 j2 j3))), (mS, .inl (cI, 4, .inl (k4i s0 s1 s2 s3)))]) (va_runS (As := [.long b.toInt64, .long 256, .long 259]) (rest := []) ⟨hx, hb, hml, hown, hts⟩ (q_in l D cI cL cB cZ cT _ (b.toInt64) 256 259) (va_cwS 3 hts gX8_reaches_X8_in rfl rfl rfl (by decide +kernel) ⟨Nat.le_of_ble_eq_true rfl, Nat.le_of_ble_eq_true rfl⟩) (kPreS hG hP hD [] rfl (by decide)) rfl rfl hl.1 rfl (lv_room (Nat.le_of_ble_eq_true rfl)) dX8_reaches_77 ⟨Nat.le_of_ble_eq_true rfl, Nat.le_of_ble_eq_true rfl⟩) hA hP hD hS [] [0, 1, 2, 3] rfl rfl (by decide) (by decide) (fun r_61 u_r_61 H locs wr_61 hP hD hS => ?_)
              have hP : va_P D vwCl [(m0, .inr (8, [.ref mH, .int aM, .long aC, .int mM, .long mQ, .int oV, .int pL, .int lI, .int sW, .int dP, .int sT, .long aT, .int cH, .int iW, .ref mI, .ref mJ, .ref mS, .ref mD, .int iH, .int aE, .int mN, .long sZ, .ref mX, .int tS, .int tA, .int tW, .ref mA, .ref mB, .ref mW, .ref mL, .int lS])), (mI, .inl (cL, 1200, .inr (.inl fI))), (mJ, .inl (cI, 4, .inl (k4i j0 j1 j2 j3))), (mS, .inl (cI, 4, .inl (k4i s0 s1 s2 s3)))] H := hP
              have hD : va_D A [(m0, .inr (8, [.ref mH, .int aM, .long aC, .int mM, .long mQ, .int oV, .int pL, .int lI, .int sW, .int dP, .int sT, .long aT, .int cH, .int iW, .ref mI, .ref mJ, .ref mS, .ref mD, .int iH, .int aE, .int mN, .long sZ, .ref mX, .int tS, .int tA, .int tW, .ref mA, .ref mB, .ref mW, .ref mL, .int lS])), (mI, .inl (cL, 1200, .inr (.inl fI))), (mJ, .inl (cI, 4, .inl (k4i j0 j1 j2 j3))), (mS, .inl (cI, 4, .inl (k4i s0 s1 s2 s3)))] := hD
              try dsimp only at wr_61
              subst wr_61
              refine lv_if_ne (tgt := 85) hx hb dX8_reaches_80 (by decide) (fun c_80_61 => ?_) (fun c_80_61 => ?_)
              · have t_80_61 := c_80_61
                try simp only [kb_eq0, kb_ne0, lg_cmp_lt, lg_cmp_le, lg_cmp_gt, lg_cmp_ge, lg_cmp_eq] at t_80_61
                try simp only [Int32.lt_iff_toInt_lt, Int32.le_iff_toInt_le, ← Int32.toInt_inj, Int64.lt_iff_toInt_lt, Int64.le_iff_toInt_le, ← Int64.toInt_inj, Int32.toInt_toInt64, Int32.reduceToInt, Int64.reduceToInt] at t_80_61
                refine lv_aload_n hx hb dX8_reaches_85 rfl (lv_at hl 1 rfl) ?_
                refine kCallI (wr := []) (va_runV (As := []) (rest := []) ⟨hx, hb, hml, hown, hts⟩ (q_endsRecord l D cI cL cB cZ cT _ m0 mH mI mJ mS mD mX mA mB mW mL aM aC mM mQ oV pL lI sW dP sT aT cH iW iH aE mN sZ tS tA tW lS fI j0 j1 j2 j3 s0 s1 s2 s3 (by omega) (by omega)) (cwV 0 hts gX8_reaches_X8_endsRecord rfl rfl rfl (by decide +kernel) ⟨Nat.le_of_ble_eq_true rfl, Nat.le_of_ble_eq_true rfl⟩) (kPreV hG hP hD [0, 1, 2, 3] rfl (by decide) 0 8 rfl rfl rfl) rfl rfl hl.1 rfl (lv_room (Nat.le_of_ble_eq_true rfl)) dX8_reaches_86 ⟨Nat.le_of_ble_eq_true rfl, Nat.le_of_ble_eq_true rfl⟩) hA hP hD hS [0, 1, 2, 3] [] rfl rfl (by decide) (by decide) (fun r_63 u_r_63 H locs wr_63 hP hD hS => ?_)
                have hP : va_P D vwCl [(m0, .inr (8, [.ref mH, .int aM, .long aC, .int mM, .long mQ, .int oV, .int pL, .int lI, .int sW, .int dP, .int sT, .long aT, .int cH, .int u_r_63.1, .ref mI, .ref mJ, .ref mS, .ref mD, .int iH, .int aE, .int mN, .long sZ, .ref mX, .int tS, .int tA, .int tW, .ref mA, .ref mB, .ref mW, .ref mL, .int lS])), (mI, .inl (cL, 1200, .inr (.inl u_r_63.2.1))), (mJ, .inl (cI, 4, .inl (k4i u_r_63.2.2.1 u_r_63.2.2.2.1 u_r_63.2.2.2.2.1 u_r_63.2.2.2.2.2.1))), (mS, .inl (cI, 4, .inl (k4i u_r_63.2.2.2.2.2.2.1 u_r_63.2.2.2.2.2.2.2.1 u_r_63.2.2.2.2.2.2.2.2.1 u_r_63.2.2.2.2.2.2.2.2.2)))] H := hP
                have hD : va_D A [(m0, .inr (8, [.ref mH, .int aM, .long aC, .int mM, .long mQ, .int oV, .int pL, .int lI, .int sW, .int dP, .int sT, .long aT, .int cH, .int u_r_63.1, .ref mI, .ref mJ, .ref mS, .ref mD, .int iH, .int aE, .int mN, .long sZ, .ref mX, .int tS, .int tA, .int tW, .ref mA, .ref mB, .ref mW, .ref mL, .int lS])), (mI, .inl (cL, 1200, .inr (.inl u_r_63.2.1))), (mJ, .inl (cI, 4, .inl (k4i u_r_63.2.2.1 u_r_63.2.2.2.1 u_r_63.2.2.2.2.1 u_r_63.2.2.2.2.2.1))), (mS, .inl (cI, 4, .inl (k4i u_r_63.2.2.2.2.2.2.1 u_r_63.2.2.2.2.2.2.2.1 u_r_63.2.2.2.2.2.2.2.2.1 u_r_63.2.2.2.2.2.2.2.2.2)))] := hD
                try dsimp only at wr_63
                try simp only [Int32.reduceToInt, Int64.reduceToInt] at wr_63
                refine lv_if_ne (tgt := 94) hx hb dX8_reaches_89 (by decide) (fun c_89_63 => ?_) (fun c_89_63 => ?_)
                · have t_89_63 := c_89_63
                  try simp only [kb_eq0, kb_ne0, lg_cmp_lt, lg_cmp_le, lg_cmp_gt, lg_cmp_ge, lg_cmp_eq] at t_89_63
                  try simp only [Int32.lt_iff_toInt_lt, Int32.le_iff_toInt_le, ← Int32.toInt_inj, Int64.lt_iff_toInt_lt, Int64.le_iff_toInt_le, ← Int64.toInt_inj, Int32.toInt_toInt64, Int32.reduceToInt, Int64.reduceToInt] at t_89_63
                  rcases ksw_256_259 b with hsw | rfl | rfl | rfl | rfl
                  · omega
                  · refine lv_iload_n hx hb dX8_reaches_94 rfl (lv_at hl 3 rfl) ?_
                    refine lv_sipush (v := 256) hx hb dX8_reaches_95 (by decide) ?_
                    refine lv_isub hx hb dX8_reaches_98 ?_
                    refine lv_topi (fun x_65 ex_65 => ?_)
                    obtain rfl : x_65 = 0 := ex_65.trans (by decide)
                    refine lv_istore (lv' := [(4, .int 0), (3, .int 0), (0, .ref m0), (1, .int a), (2, .int 256)]) hx hb dX8_reaches_99 hl (by decide) rfl (fun ls hl => ?_)
                    refine lv_iload_n hx hb dX8_reaches_101 rfl (lv_at hl 3 rfl) ?_
                    rcases ksw_24_27 a with hsw | rfl | rfl | rfl | rfl
                    · refine lv_tableOut (tgt := 238) hx hb dX8_reaches_102 hsw (by decide) ?_
                      refine lv_aload_n hx hb dX8_reaches_238 rfl (lv_at hl 2 rfl) ?_
                      refine va_get (D := D) (ci := 8) (v := .ref mS) (C := RX8) (T := TX8) (N := 31) hx hb hts iX8_reaches_X8 hown hK hP 0 rfl rfl 16 (by decide) (hts (.fieldLink RX8 20 "TapeCalculatorModel" "stands" "[I") (List.mem_of_getElem? (i := 6) rfl)) (fun _ h9 => h9) rfl dX8_reaches_239 ?_
                      refine lv_iload hx hb dX8_reaches_242 (lv_at hl 0 rfl) ?_
                      refine lv_iconst (v := 0) hx hb dX8_reaches_244 (by decide) ?_
                      refine va_iast hx hb hK hP hD hS 3 0 rfl rfl (vp_in_iff.mpr (by decide)) dX8_reaches_245 (fun H locs hP hD hS => ?_)
                      rw [k4i_0] at hP hD
                      have hP : va_P D vwCl [(m0, .inr (8, [.ref mH, .int aM, .long aC, .int mM, .long mQ, .int oV, .int pL, .int lI, .int sW, .int dP, .int sT, .long aT, .int cH, .int u_r_63.1, .ref mI, .ref mJ, .ref mS, .ref mD, .int iH, .int aE, .int mN, .long sZ, .ref mX, .int tS, .int tA, .int tW, .ref mA, .ref mB, .ref mW, .ref mL, .int lS])), (mI, .inl (cL, 1200, .inr (.inl u_r_63.2.1))), (mJ, .inl (cI, 4, .inl (k4i u_r_63.2.2.1 u_r_63.2.2.2.1 u_r_63.2.2.2.2.1 u_r_63.2.2.2.2.2.1))), (mS, .inl (cI, 4, .inl (k4i 0 u_r_63.2.2.2.2.2.2.2.1 u_r_63.2.2.2.2.2.2.2.2.1 u_r_63.2.2.2.2.2.2.2.2.2)))] H := hP
                      have hD : va_D A [(m0, .inr (8, [.ref mH, .int aM, .long aC, .int mM, .long mQ, .int oV, .int pL, .int lI, .int sW, .int dP, .int sT, .long aT, .int cH, .int u_r_63.1, .ref mI, .ref mJ, .ref mS, .ref mD, .int iH, .int aE, .int mN, .long sZ, .ref mX, .int tS, .int tA, .int tW, .ref mA, .ref mB, .ref mW, .ref mL, .int lS])), (mI, .inl (cL, 1200, .inr (.inl u_r_63.2.1))), (mJ, .inl (cI, 4, .inl (k4i u_r_63.2.2.1 u_r_63.2.2.2.1 u_r_63.2.2.2.2.1 u_r_63.2.2.2.2.2.1))), (mS, .inl (cI, 4, .inl (k4i 0 u_r_63.2.2.2.2.2.2.2.1 u_r_63.2.2.2.2.2.2.2.2.1 u_r_63.2.2.2.2.2.2.2.2.2)))] := hD
                      refine lv_aload_n hx hb dX8_reaches_246 rfl (lv_at hl 2 rfl) ?_
                      refine lv_iconst (v := 0) hx hb dX8_reaches_247 (by decide) ?_
                      refine va_put (D := D) (ci := 8) (v := .int 0) (ty := .int) (C := RX8) (T := TX8) (N := 31) hx hb hts iX8_reaches_X8 tyX8 tyX8_ok nmX8 hown hK hP hD hS 0 rfl rfl 12 (by decide) (hts (.fieldLink RX8 43 "TapeCalculatorModel" "chosen" "I") (List.mem_of_getElem? (i := 1) rfl)) (fun _ h9 => h9) rfl (by decide +kernel) rfl rfl (Nat.le_of_ble_eq_true rfl) dX8_reaches_248 (fun H locs hP hD hS => ?_)
                      have hP : va_P D vwCl [(m0, .inr (8, [.ref mH, .int aM, .long aC, .int mM, .long mQ, .int oV, .int pL, .int lI, .int sW, .int dP, .int sT, .long aT, .int 0, .int u_r_63.1, .ref mI, .ref mJ, .ref mS, .ref mD, .int iH, .int aE, .int mN, .long sZ, .ref mX, .int tS, .int tA, .int tW, .ref mA, .ref mB, .ref mW, .ref mL, .int lS])), (mI, .inl (cL, 1200, .inr (.inl u_r_63.2.1))), (mJ, .inl (cI, 4, .inl (k4i u_r_63.2.2.1 u_r_63.2.2.2.1 u_r_63.2.2.2.2.1 u_r_63.2.2.2.2.2.1))), (mS, .inl (cI, 4, .inl (k4i 0 u_r_63.2.2.2.2.2.2.2.1 u_r_63.2.2.2.2.2.2.2.2.1 u_r_63.2.2.2.2.2.2.2.2.2)))] H := hP
                      have hD : va_D A [(m0, .inr (8, [.ref mH, .int aM, .long aC, .int mM, .long mQ, .int oV, .int pL, .int lI, .int sW, .int dP, .int sT, .long aT, .int 0, .int u_r_63.1, .ref mI, .ref mJ, .ref mS, .ref mD, .int iH, .int aE, .int mN, .long sZ, .ref mX, .int tS, .int tA, .int tW, .ref mA, .ref mB, .ref mW, .ref mL, .int lS])), (mI, .inl (cL, 1200, .inr (.inl u_r_63.2.1))), (mJ, .inl (cI, 4, .inl (k4i u_r_63.2.2.1 u_r_63.2.2.2.1 u_r_63.2.2.2.2.1 u_r_63.2.2.2.2.2.1))), (mS, .inl (cI, 4, .inl (k4i 0 u_r_63.2.2.2.2.2.2.2.1 u_r_63.2.2.2.2.2.2.2.2.1 u_r_63.2.2.2.2.2.2.2.2.2)))] := hD
                      refine lv_iconst (v := 0) hx hb dX8_reaches_251 (by decide) ?_
                      refine kIret (u := (pL, lI, dP, 0, u_r_63.1, u_r_63.2.1, u_r_63.2.2.1, u_r_63.2.2.2.1, u_r_63.2.2.2.2.1, u_r_63.2.2.2.2.2.1, 0, u_r_63.2.2.2.2.2.2.2.1, u_r_63.2.2.2.2.2.2.2.2.1, u_r_63.2.2.2.2.2.2.2.2.2)) hx hb hr rfl hlocks hS dX8_reaches_252 ?_ (hP.sub [0, 1, 2, 3] rfl) (hD.sub [0, 1, 2, 3] (by decide) rfl)
                      try dsimp only
                      try simp only [Int32.reduceToInt, Int64.reduceToInt, true_or, or_true, true_and, and_true]
                      repeat' apply And.intro
                      all_goals first | assumption | omega
                    · refine lv_tableIn (tgt := 132) (off := 30) hx hb dX8_reaches_102 (by decide) (by decide) (by decide) (by decide) ?_
                      refine lv_aload_n hx hb dX8_reaches_132 rfl (lv_at hl 2 rfl) ?_
                      refine lv_iload_n hx hb dX8_reaches_133 rfl (lv_at hl 1 rfl) ?_
                      refine lv_if_eq (tgt := 142) hx hb dX8_reaches_134 (by decide) (fun c_134_65 => ?_) (fun c_134_65 => ?_)
                      · have t_134_65 := c_134_65
                        try simp only [kb_eq0, kb_ne0, lg_cmp_lt, lg_cmp_le, lg_cmp_gt, lg_cmp_ge, lg_cmp_eq] at t_134_65
                        try simp only [Int32.lt_iff_toInt_lt, Int32.le_iff_toInt_le, ← Int32.toInt_inj, Int64.lt_iff_toInt_lt, Int64.le_iff_toInt_le, ← Int64.toInt_inj, Int32.toInt_toInt64, Int32.reduceToInt, Int64.reduceToInt] at t_134_65
                        refine lv_iconst (v := 1) hx hb dX8_reaches_142 (by decide) ?_
                        refine lv_iload hx hb dX8_reaches_143 (lv_at hl 0 rfl) ?_
                        refine lv_iadd hx hb dX8_reaches_145 ?_
                        refine lv_topi (fun x_67 ex_67 => ?_)
                        obtain rfl : x_67 = 1 := ex_67.trans (by decide)
                        refine va_put (D := D) (ci := 8) (v := .int 1) (ty := .int) (C := RX8) (T := TX8) (N := 31) hx hb hts iX8_reaches_X8 tyX8 tyX8_ok nmX8 hown hK hP hD hS 0 rfl rfl 12 (by decide) (hts (.fieldLink RX8 43 "TapeCalculatorModel" "chosen" "I") (List.mem_of_getElem? (i := 1) rfl)) (fun _ h9 => h9) rfl (by decide +kernel) rfl rfl (Nat.le_of_ble_eq_true rfl) dX8_reaches_146 (fun H locs hP hD hS => ?_)
                        have hP : va_P D vwCl [(m0, .inr (8, [.ref mH, .int aM, .long aC, .int mM, .long mQ, .int oV, .int pL, .int lI, .int sW, .int dP, .int sT, .long aT, .int 1, .int u_r_63.1, .ref mI, .ref mJ, .ref mS, .ref mD, .int iH, .int aE, .int mN, .long sZ, .ref mX, .int tS, .int tA, .int tW, .ref mA, .ref mB, .ref mW, .ref mL, .int lS])), (mI, .inl (cL, 1200, .inr (.inl u_r_63.2.1))), (mJ, .inl (cI, 4, .inl (k4i u_r_63.2.2.1 u_r_63.2.2.2.1 u_r_63.2.2.2.2.1 u_r_63.2.2.2.2.2.1))), (mS, .inl (cI, 4, .inl (k4i u_r_63.2.2.2.2.2.2.1 u_r_63.2.2.2.2.2.2.2.1 u_r_63.2.2.2.2.2.2.2.2.1 u_r_63.2.2.2.2.2.2.2.2.2)))] H := hP
                        have hD : va_D A [(m0, .inr (8, [.ref mH, .int aM, .long aC, .int mM, .long mQ, .int oV, .int pL, .int lI, .int sW, .int dP, .int sT, .long aT, .int 1, .int u_r_63.1, .ref mI, .ref mJ, .ref mS, .ref mD, .int iH, .int aE, .int mN, .long sZ, .ref mX, .int tS, .int tA, .int tW, .ref mA, .ref mB, .ref mW, .ref mL, .int lS])), (mI, .inl (cL, 1200, .inr (.inl u_r_63.2.1))), (mJ, .inl (cI, 4, .inl (k4i u_r_63.2.2.1 u_r_63.2.2.2.1 u_r_63.2.2.2.2.1 u_r_63.2.2.2.2.2.1))), (mS, .inl (cI, 4, .inl (k4i u_r_63.2.2.2.2.2.2.1 u_r_63.2.2.2.2.2.2.2.1 u_r_63.2.2.2.2.2.2.2.2.1 u_r_63.2.2.2.2.2.2.2.2.2)))] := hD
                        refine lv_goto (tgt := 251) hx hb dX8_reaches_149 (by decide) ?_
                        refine lv_iconst (v := 0) hx hb dX8_reaches_251 (by decide) ?_
                        refine kIret (u := (pL, lI, dP, 1, u_r_63.1, u_r_63.2.1, u_r_63.2.2.1, u_r_63.2.2.2.1, u_r_63.2.2.2.2.1, u_r_63.2.2.2.2.2.1, u_r_63.2.2.2.2.2.2.1, u_r_63.2.2.2.2.2.2.2.1, u_r_63.2.2.2.2.2.2.2.2.1, u_r_63.2.2.2.2.2.2.2.2.2)) hx hb hr rfl hlocks hS dX8_reaches_252 ?_ (hP.sub [0, 1, 2, 3] rfl) (hD.sub [0, 1, 2, 3] (by decide) rfl)
                        try dsimp only
                        try simp only [Int32.reduceToInt, Int64.reduceToInt, true_or, or_true, true_and, and_true]
                        repeat' apply And.intro
                        all_goals first | assumption | omega
                      · exact absurd (by decide) c_134_65
                    · refine lv_tableIn (tgt := 152) (off := 50) hx hb dX8_reaches_102 (by decide) (by decide) (by decide) (by decide) ?_
                      refine lv_aload_n hx hb dX8_reaches_152 rfl (lv_at hl 2 rfl) ?_
                      refine lv_iconst (v := 5) hx hb dX8_reaches_153 (by decide) ?_
                      refine lv_iload hx hb dX8_reaches_154 (lv_at hl 0 rfl) ?_
                      refine lv_iadd hx hb dX8_reaches_156 ?_
                      refine lv_topi (fun x_68 ex_68 => ?_)
                      obtain rfl : x_68 = 5 := ex_68.trans (by decide)
                      refine va_put (D := D) (ci := 8) (v := .int 5) (ty := .int) (C := RX8) (T := TX8) (N := 31) hx hb hts iX8_reaches_X8 tyX8 tyX8_ok nmX8 hown hK hP hD hS 0 rfl rfl 12 (by decide) (hts (.fieldLink RX8 43 "TapeCalculatorModel" "chosen" "I") (List.mem_of_getElem? (i := 1) rfl)) (fun _ h9 => h9) rfl (by decide +kernel) rfl rfl (Nat.le_of_ble_eq_true rfl) dX8_reaches_157 (fun H locs hP hD hS => ?_)
                      have hP : va_P D vwCl [(m0, .inr (8, [.ref mH, .int aM, .long aC, .int mM, .long mQ, .int oV, .int pL, .int lI, .int sW, .int dP, .int sT, .long aT, .int 5, .int u_r_63.1, .ref mI, .ref mJ, .ref mS, .ref mD, .int iH, .int aE, .int mN, .long sZ, .ref mX, .int tS, .int tA, .int tW, .ref mA, .ref mB, .ref mW, .ref mL, .int lS])), (mI, .inl (cL, 1200, .inr (.inl u_r_63.2.1))), (mJ, .inl (cI, 4, .inl (k4i u_r_63.2.2.1 u_r_63.2.2.2.1 u_r_63.2.2.2.2.1 u_r_63.2.2.2.2.2.1))), (mS, .inl (cI, 4, .inl (k4i u_r_63.2.2.2.2.2.2.1 u_r_63.2.2.2.2.2.2.2.1 u_r_63.2.2.2.2.2.2.2.2.1 u_r_63.2.2.2.2.2.2.2.2.2)))] H := hP
                      have hD : va_D A [(m0, .inr (8, [.ref mH, .int aM, .long aC, .int mM, .long mQ, .int oV, .int pL, .int lI, .int sW, .int dP, .int sT, .long aT, .int 5, .int u_r_63.1, .ref mI, .ref mJ, .ref mS, .ref mD, .int iH, .int aE, .int mN, .long sZ, .ref mX, .int tS, .int tA, .int tW, .ref mA, .ref mB, .ref mW, .ref mL, .int lS])), (mI, .inl (cL, 1200, .inr (.inl u_r_63.2.1))), (mJ, .inl (cI, 4, .inl (k4i u_r_63.2.2.1 u_r_63.2.2.2.1 u_r_63.2.2.2.2.1 u_r_63.2.2.2.2.2.1))), (mS, .inl (cI, 4, .inl (k4i u_r_63.2.2.2.2.2.2.1 u_r_63.2.2.2.2.2.2.2.1 u_r_63.2.2.2.2.2.2.2.2.1 u_r_63.2.2.2.2.2.2.2.2.2)))] := hD
                      refine lv_goto (tgt := 251) hx hb dX8_reaches_160 (by decide) ?_
                      refine lv_iconst (v := 0) hx hb dX8_reaches_251 (by decide) ?_
                      refine kIret (u := (pL, lI, dP, 5, u_r_63.1, u_r_63.2.1, u_r_63.2.2.1, u_r_63.2.2.2.1, u_r_63.2.2.2.2.1, u_r_63.2.2.2.2.2.1, u_r_63.2.2.2.2.2.2.1, u_r_63.2.2.2.2.2.2.2.1, u_r_63.2.2.2.2.2.2.2.2.1, u_r_63.2.2.2.2.2.2.2.2.2)) hx hb hr rfl hlocks hS dX8_reaches_252 ?_ (hP.sub [0, 1, 2, 3] rfl) (hD.sub [0, 1, 2, 3] (by decide) rfl)
                      try dsimp only
                      try simp only [Int32.reduceToInt, Int64.reduceToInt, true_or, or_true, true_and, and_true]
                      repeat' apply And.intro
                      all_goals first | assumption | omega
                    · refine lv_tableIn (tgt := 163) (off := 61) hx hb dX8_reaches_102 (by decide) (by decide) (by decide) (by decide) ?_
                      refine lv_iload_n hx hb dX8_reaches_163 rfl (lv_at hl 1 rfl) ?_
                      refine lv_if_ne (tgt := 181) hx hb dX8_reaches_164 (by decide) (fun c_164_68 => ?_) (fun c_164_68 => ?_)
                      · exact absurd (by decide) c_164_68
                      · have t_164_68 := c_164_68
                        try simp only [kb_eq0, kb_ne0, lg_cmp_lt, lg_cmp_le, lg_cmp_gt, lg_cmp_ge, lg_cmp_eq] at t_164_68
                        try simp only [Int32.lt_iff_toInt_lt, Int32.le_iff_toInt_le, ← Int32.toInt_inj, Int64.lt_iff_toInt_lt, Int64.le_iff_toInt_le, ← Int64.toInt_inj, Int32.toInt_toInt64, Int32.reduceToInt, Int64.reduceToInt] at t_164_68
                        refine lv_aload_n hx hb dX8_reaches_167 rfl (lv_at hl 2 rfl) ?_
                        refine va_get (D := D) (ci := 8) (v := .ref mJ) (C := RX8) (T := TX8) (N := 31) hx hb hts iX8_reaches_X8 hown hK hP 0 rfl rfl 15 (by decide) (hts (.fieldLink RX8 17 "TapeCalculatorModel" "items" "[I") (List.mem_of_getElem? (i := 5) rfl)) (fun _ h9 => h9) rfl dX8_reaches_168 ?_
                        refine lv_iload hx hb dX8_reaches_171 (lv_at hl 0 rfl) ?_
                        refine lv_aload_n hx hb dX8_reaches_173 rfl (lv_at hl 2 rfl) ?_
                        refine va_get (D := D) (ci := 8) (v := .ref mS) (C := RX8) (T := TX8) (N := 31) hx hb hts iX8_reaches_X8 hown hK hP 0 rfl rfl 16 (by decide) (hts (.fieldLink RX8 20 "TapeCalculatorModel" "stands" "[I") (List.mem_of_getElem? (i := 6) rfl)) (fun _ h9 => h9) rfl dX8_reaches_174 ?_
                        refine lv_iload hx hb dX8_reaches_177 (lv_at hl 0 rfl) ?_
                        refine va_iald hx hb hK hP 3 0 rfl rfl (vp_in_iff.mpr (by decide)) dX8_reaches_179 ?_
                        refine lv_topi (fun x_70 ex_70 => ?_)
                        obtain rfl : u_r_63.2.2.2.2.2.2.1 = x_70 := ex_70.symm
                        refine va_iast hx hb hK hP hD hS 2 0 rfl rfl (vp_in_iff.mpr (by decide)) dX8_reaches_180 (fun H locs hP hD hS => ?_)
                        rw [k4i_0] at hP hD
                        have hP : va_P D vwCl [(m0, .inr (8, [.ref mH, .int aM, .long aC, .int mM, .long mQ, .int oV, .int pL, .int lI, .int sW, .int dP, .int sT, .long aT, .int cH, .int u_r_63.1, .ref mI, .ref mJ, .ref mS, .ref mD, .int iH, .int aE, .int mN, .long sZ, .ref mX, .int tS, .int tA, .int tW, .ref mA, .ref mB, .ref mW, .ref mL, .int lS])), (mI, .inl (cL, 1200, .inr (.inl u_r_63.2.1))), (mJ, .inl (cI, 4, .inl (k4i (u_r_63.2.2.2.2.2.2.1) u_r_63.2.2.2.1 u_r_63.2.2.2.2.1 u_r_63.2.2.2.2.2.1))), (mS, .inl (cI, 4, .inl (k4i u_r_63.2.2.2.2.2.2.1 u_r_63.2.2.2.2.2.2.2.1 u_r_63.2.2.2.2.2.2.2.2.1 u_r_63.2.2.2.2.2.2.2.2.2)))] H := hP
                        have hD : va_D A [(m0, .inr (8, [.ref mH, .int aM, .long aC, .int mM, .long mQ, .int oV, .int pL, .int lI, .int sW, .int dP, .int sT, .long aT, .int cH, .int u_r_63.1, .ref mI, .ref mJ, .ref mS, .ref mD, .int iH, .int aE, .int mN, .long sZ, .ref mX, .int tS, .int tA, .int tW, .ref mA, .ref mB, .ref mW, .ref mL, .int lS])), (mI, .inl (cL, 1200, .inr (.inl u_r_63.2.1))), (mJ, .inl (cI, 4, .inl (k4i (u_r_63.2.2.2.2.2.2.1) u_r_63.2.2.2.1 u_r_63.2.2.2.2.1 u_r_63.2.2.2.2.2.1))), (mS, .inl (cI, 4, .inl (k4i u_r_63.2.2.2.2.2.2.1 u_r_63.2.2.2.2.2.2.2.1 u_r_63.2.2.2.2.2.2.2.2.1 u_r_63.2.2.2.2.2.2.2.2.2)))] := hD
                        refine lv_aload_n hx hb dX8_reaches_181 rfl (lv_at hl 2 rfl) ?_
                        refine lv_iload_n hx hb dX8_reaches_182 rfl (lv_at hl 1 rfl) ?_
                        refine lv_if_eq (tgt := 191) hx hb dX8_reaches_183 (by decide) (fun c_183_70 => ?_) (fun c_183_70 => ?_)
                        · have t_183_70 := c_183_70
                          try simp only [kb_eq0, kb_ne0, lg_cmp_lt, lg_cmp_le, lg_cmp_gt, lg_cmp_ge, lg_cmp_eq] at t_183_70
                          try simp only [Int32.lt_iff_toInt_lt, Int32.le_iff_toInt_le, ← Int32.toInt_inj, Int64.lt_iff_toInt_lt, Int64.le_iff_toInt_le, ← Int64.toInt_inj, Int32.toInt_toInt64, Int32.reduceToInt, Int64.reduceToInt] at t_183_70
                          refine lv_bipush (v := 9) hx hb dX8_reaches_191 (by decide) ?_
                          refine lv_iload hx hb dX8_reaches_193 (lv_at hl 0 rfl) ?_
                          refine lv_iadd hx hb dX8_reaches_195 ?_
                          refine lv_topi (fun x_72 ex_72 => ?_)
                          obtain rfl : x_72 = 9 := ex_72.trans (by decide)
                          refine va_put (D := D) (ci := 8) (v := .int 9) (ty := .int) (C := RX8) (T := TX8) (N := 31) hx hb hts iX8_reaches_X8 tyX8 tyX8_ok nmX8 hown hK hP hD hS 0 rfl rfl 12 (by decide) (hts (.fieldLink RX8 43 "TapeCalculatorModel" "chosen" "I") (List.mem_of_getElem? (i := 1) rfl)) (fun _ h9 => h9) rfl (by decide +kernel) rfl rfl (Nat.le_of_ble_eq_true rfl) dX8_reaches_196 (fun H locs hP hD hS => ?_)
                          have hP : va_P D vwCl [(m0, .inr (8, [.ref mH, .int aM, .long aC, .int mM, .long mQ, .int oV, .int pL, .int lI, .int sW, .int dP, .int sT, .long aT, .int 9, .int u_r_63.1, .ref mI, .ref mJ, .ref mS, .ref mD, .int iH, .int aE, .int mN, .long sZ, .ref mX, .int tS, .int tA, .int tW, .ref mA, .ref mB, .ref mW, .ref mL, .int lS])), (mI, .inl (cL, 1200, .inr (.inl u_r_63.2.1))), (mJ, .inl (cI, 4, .inl (k4i (u_r_63.2.2.2.2.2.2.1) u_r_63.2.2.2.1 u_r_63.2.2.2.2.1 u_r_63.2.2.2.2.2.1))), (mS, .inl (cI, 4, .inl (k4i u_r_63.2.2.2.2.2.2.1 u_r_63.2.2.2.2.2.2.2.1 u_r_63.2.2.2.2.2.2.2.2.1 u_r_63.2.2.2.2.2.2.2.2.2)))] H := hP
                          have hD : va_D A [(m0, .inr (8, [.ref mH, .int aM, .long aC, .int mM, .long mQ, .int oV, .int pL, .int lI, .int sW, .int dP, .int sT, .long aT, .int 9, .int u_r_63.1, .ref mI, .ref mJ, .ref mS, .ref mD, .int iH, .int aE, .int mN, .long sZ, .ref mX, .int tS, .int tA, .int tW, .ref mA, .ref mB, .ref mW, .ref mL, .int lS])), (mI, .inl (cL, 1200, .inr (.inl u_r_63.2.1))), (mJ, .inl (cI, 4, .inl (k4i (u_r_63.2.2.2.2.2.2.1) u_r_63.2.2.2.1 u_r_63.2.2.2.2.1 u_r_63.2.2.2.2.2.1))), (mS, .inl (cI, 4, .inl (k4i u_r_63.2.2.2.2.2.2.1 u_r_63.2.2.2.2.2.2.2.1 u_r_63.2.2.2.2.2.2.2.2.1 u_r_63.2.2.2.2.2.2.2.2.2)))] := hD
                          refine lv_goto (tgt := 251) hx hb dX8_reaches_199 (by decide) ?_
                          refine lv_iconst (v := 0) hx hb dX8_reaches_251 (by decide) ?_
                          refine kIret (u := (pL, lI, dP, 9, u_r_63.1, u_r_63.2.1, (u_r_63.2.2.2.2.2.2.1), u_r_63.2.2.2.1, u_r_63.2.2.2.2.1, u_r_63.2.2.2.2.2.1, u_r_63.2.2.2.2.2.2.1, u_r_63.2.2.2.2.2.2.2.1, u_r_63.2.2.2.2.2.2.2.2.1, u_r_63.2.2.2.2.2.2.2.2.2)) hx hb hr rfl hlocks hS dX8_reaches_252 ?_ (hP.sub [0, 1, 2, 3] rfl) (hD.sub [0, 1, 2, 3] (by decide) rfl)
                          try dsimp only
                          try simp only [Int32.reduceToInt, Int64.reduceToInt, true_or, or_true, true_and, and_true]
                          repeat' apply And.intro
                          all_goals first | assumption | omega
                        · exact absurd (by decide) c_183_70
                    · refine lv_tableIn (tgt := 202) (off := 100) hx hb dX8_reaches_102 (by decide) (by decide) (by decide) (by decide) ?_
                      refine lv_aload_n hx hb dX8_reaches_202 rfl (lv_at hl 2 rfl) ?_
                      refine va_get (D := D) (ci := 8) (v := .ref mJ) (C := RX8) (T := TX8) (N := 31) hx hb hts iX8_reaches_X8 hown hK hP 0 rfl rfl 15 (by decide) (hts (.fieldLink RX8 17 "TapeCalculatorModel" "items" "[I") (List.mem_of_getElem? (i := 5) rfl)) (fun _ h9 => h9) rfl dX8_reaches_203 ?_
                      refine lv_iload hx hb dX8_reaches_206 (lv_at hl 0 rfl) ?_
                      refine lv_aload_n hx hb dX8_reaches_208 rfl (lv_at hl 2 rfl) ?_
                      refine va_get (D := D) (ci := 8) (v := .ref mS) (C := RX8) (T := TX8) (N := 31) hx hb hts iX8_reaches_X8 hown hK hP 0 rfl rfl 16 (by decide) (hts (.fieldLink RX8 20 "TapeCalculatorModel" "stands" "[I") (List.mem_of_getElem? (i := 6) rfl)) (fun _ h9 => h9) rfl dX8_reaches_209 ?_
                      refine lv_iload hx hb dX8_reaches_212 (lv_at hl 0 rfl) ?_
                      refine va_iald hx hb hK hP 3 0 rfl rfl (vp_in_iff.mpr (by decide)) dX8_reaches_214 ?_
                      refine lv_topi (fun x_73 ex_73 => ?_)
                      obtain rfl : u_r_63.2.2.2.2.2.2.1 = x_73 := ex_73.symm
                      refine va_iast hx hb hK hP hD hS 2 0 rfl rfl (vp_in_iff.mpr (by decide)) dX8_reaches_215 (fun H locs hP hD hS => ?_)
                      rw [k4i_0] at hP hD
                      have hP : va_P D vwCl [(m0, .inr (8, [.ref mH, .int aM, .long aC, .int mM, .long mQ, .int oV, .int pL, .int lI, .int sW, .int dP, .int sT, .long aT, .int cH, .int u_r_63.1, .ref mI, .ref mJ, .ref mS, .ref mD, .int iH, .int aE, .int mN, .long sZ, .ref mX, .int tS, .int tA, .int tW, .ref mA, .ref mB, .ref mW, .ref mL, .int lS])), (mI, .inl (cL, 1200, .inr (.inl u_r_63.2.1))), (mJ, .inl (cI, 4, .inl (k4i (u_r_63.2.2.2.2.2.2.1) u_r_63.2.2.2.1 u_r_63.2.2.2.2.1 u_r_63.2.2.2.2.2.1))), (mS, .inl (cI, 4, .inl (k4i u_r_63.2.2.2.2.2.2.1 u_r_63.2.2.2.2.2.2.2.1 u_r_63.2.2.2.2.2.2.2.2.1 u_r_63.2.2.2.2.2.2.2.2.2)))] H := hP
                      have hD : va_D A [(m0, .inr (8, [.ref mH, .int aM, .long aC, .int mM, .long mQ, .int oV, .int pL, .int lI, .int sW, .int dP, .int sT, .long aT, .int cH, .int u_r_63.1, .ref mI, .ref mJ, .ref mS, .ref mD, .int iH, .int aE, .int mN, .long sZ, .ref mX, .int tS, .int tA, .int tW, .ref mA, .ref mB, .ref mW, .ref mL, .int lS])), (mI, .inl (cL, 1200, .inr (.inl u_r_63.2.1))), (mJ, .inl (cI, 4, .inl (k4i (u_r_63.2.2.2.2.2.2.1) u_r_63.2.2.2.1 u_r_63.2.2.2.2.1 u_r_63.2.2.2.2.2.1))), (mS, .inl (cI, 4, .inl (k4i u_r_63.2.2.2.2.2.2.1 u_r_63.2.2.2.2.2.2.2.1 u_r_63.2.2.2.2.2.2.2.2.1 u_r_63.2.2.2.2.2.2.2.2.2)))] := hD
                      refine lv_aload_n hx hb dX8_reaches_216 rfl (lv_at hl 2 rfl) ?_
                      refine lv_iload hx hb dX8_reaches_217 (lv_at hl 0 rfl) ?_
                      refine lv_ldc2 (v := (-3)) hx hb hown (hts (.constantLong RX8 113 (-3)) (List.mem_of_getElem? (i := 7) rfl)) dX8_reaches_219 ?_
                      refine kCallI (wr := []) (va_runV (As := [.int 0, .long (-3)]) (rest := []) ⟨hx, hb, hml, hown, hts⟩ (q_puts l D cI cL cB cZ cT _ m0 mH mI mJ mS mD mX mA mB mW mL aM aC mM mQ oV pL lI sW dP sT aT cH (u_r_63.1) iH aE mN sZ tS tA tW lS (u_r_63.2.1) (u_r_63.2.2.2.2.2.2.1) (u_r_63.2.2.2.1) (u_r_63.2.2.2.2.1) (u_r_63.2.2.2.2.2.1) (u_r_63.2.2.2.2.2.2.1) (u_r_63.2.2.2.2.2.2.2.1) (u_r_63.2.2.2.2.2.2.2.2.1) (u_r_63.2.2.2.2.2.2.2.2.2) 0 (-3) (by omega) (by decide)) (cwV 2 hts gX8_reaches_X8_puts rfl rfl rfl (by decide +kernel) ⟨Nat.le_of_ble_eq_true rfl, Nat.le_of_ble_eq_true rfl⟩) (kPreV hG hP hD [0, 1, 2, 3] rfl (by decide) 0 8 rfl rfl rfl) rfl rfl hl.1 rfl (lv_room (Nat.le_of_ble_eq_true rfl)) dX8_reaches_222 ⟨Nat.le_of_ble_eq_true rfl, Nat.le_of_ble_eq_true rfl⟩) hA hP hD hS [0, 1, 2, 3] [] rfl rfl (by decide) (by decide) (fun r_74 u_r_74 H locs wr_74 hP hD hS => ?_)
                      have hP : va_P D vwCl [(m0, .inr (8, [.ref mH, .int aM, .long aC, .int mM, .long mQ, .int oV, .int pL, .int lI, .int sW, .int dP, .int sT, .long aT, .int cH, .int u_r_63.1, .ref mI, .ref mJ, .ref mS, .ref mD, .int iH, .int aE, .int mN, .long sZ, .ref mX, .int tS, .int tA, .int tW, .ref mA, .ref mB, .ref mW, .ref mL, .int lS])), (mI, .inl (cL, 1200, .inr (.inl u_r_74.1))), (mJ, .inl (cI, 4, .inl (k4i u_r_74.2.1 u_r_74.2.2.1 u_r_74.2.2.2.1 u_r_74.2.2.2.2.1))), (mS, .inl (cI, 4, .inl (k4i u_r_74.2.2.2.2.2.1 u_r_74.2.2.2.2.2.2.1 u_r_74.2.2.2.2.2.2.2.1 u_r_74.2.2.2.2.2.2.2.2)))] H := hP
                      have hD : va_D A [(m0, .inr (8, [.ref mH, .int aM, .long aC, .int mM, .long mQ, .int oV, .int pL, .int lI, .int sW, .int dP, .int sT, .long aT, .int cH, .int u_r_63.1, .ref mI, .ref mJ, .ref mS, .ref mD, .int iH, .int aE, .int mN, .long sZ, .ref mX, .int tS, .int tA, .int tW, .ref mA, .ref mB, .ref mW, .ref mL, .int lS])), (mI, .inl (cL, 1200, .inr (.inl u_r_74.1))), (mJ, .inl (cI, 4, .inl (k4i u_r_74.2.1 u_r_74.2.2.1 u_r_74.2.2.2.1 u_r_74.2.2.2.2.1))), (mS, .inl (cI, 4, .inl (k4i u_r_74.2.2.2.2.2.1 u_r_74.2.2.2.2.2.2.1 u_r_74.2.2.2.2.2.2.2.1 u_r_74.2.2.2.2.2.2.2.2)))] := hD
                      try dsimp only at wr_74
                      try simp only [Int32.reduceToInt, Int64.reduceToInt] at wr_74
                      refine lv_if_ne (tgt := 230) hx hb dX8_reaches_225 (by decide) (fun c_225_74 => ?_) (fun c_225_74 => ?_)
                      · have t_225_74 := c_225_74
                        try simp only [kb_eq0, kb_ne0, lg_cmp_lt, lg_cmp_le, lg_cmp_gt, lg_cmp_ge, lg_cmp_eq] at t_225_74
                        try simp only [Int32.lt_iff_toInt_lt, Int32.le_iff_toInt_le, ← Int32.toInt_inj, Int64.lt_iff_toInt_lt, Int64.le_iff_toInt_le, ← Int64.toInt_inj, Int32.toInt_toInt64, Int32.reduceToInt, Int64.reduceToInt] at t_225_74
                        refine lv_aload_n hx hb dX8_reaches_230 rfl (lv_at hl 2 rfl) ?_
                        refine lv_iconst (v := 0) hx hb dX8_reaches_231 (by decide) ?_
                        refine va_put (D := D) (ci := 8) (v := .int 0) (ty := .int) (C := RX8) (T := TX8) (N := 31) hx hb hts iX8_reaches_X8 tyX8 tyX8_ok nmX8 hown hK hP hD hS 0 rfl rfl 12 (by decide) (hts (.fieldLink RX8 43 "TapeCalculatorModel" "chosen" "I") (List.mem_of_getElem? (i := 1) rfl)) (fun _ h9 => h9) rfl (by decide +kernel) rfl rfl (Nat.le_of_ble_eq_true rfl) dX8_reaches_232 (fun H locs hP hD hS => ?_)
                        have hP : va_P D vwCl [(m0, .inr (8, [.ref mH, .int aM, .long aC, .int mM, .long mQ, .int oV, .int pL, .int lI, .int sW, .int dP, .int sT, .long aT, .int 0, .int u_r_63.1, .ref mI, .ref mJ, .ref mS, .ref mD, .int iH, .int aE, .int mN, .long sZ, .ref mX, .int tS, .int tA, .int tW, .ref mA, .ref mB, .ref mW, .ref mL, .int lS])), (mI, .inl (cL, 1200, .inr (.inl u_r_74.1))), (mJ, .inl (cI, 4, .inl (k4i u_r_74.2.1 u_r_74.2.2.1 u_r_74.2.2.2.1 u_r_74.2.2.2.2.1))), (mS, .inl (cI, 4, .inl (k4i u_r_74.2.2.2.2.2.1 u_r_74.2.2.2.2.2.2.1 u_r_74.2.2.2.2.2.2.2.1 u_r_74.2.2.2.2.2.2.2.2)))] H := hP
                        have hD : va_D A [(m0, .inr (8, [.ref mH, .int aM, .long aC, .int mM, .long mQ, .int oV, .int pL, .int lI, .int sW, .int dP, .int sT, .long aT, .int 0, .int u_r_63.1, .ref mI, .ref mJ, .ref mS, .ref mD, .int iH, .int aE, .int mN, .long sZ, .ref mX, .int tS, .int tA, .int tW, .ref mA, .ref mB, .ref mW, .ref mL, .int lS])), (mI, .inl (cL, 1200, .inr (.inl u_r_74.1))), (mJ, .inl (cI, 4, .inl (k4i u_r_74.2.1 u_r_74.2.2.1 u_r_74.2.2.2.1 u_r_74.2.2.2.2.1))), (mS, .inl (cI, 4, .inl (k4i u_r_74.2.2.2.2.2.1 u_r_74.2.2.2.2.2.2.1 u_r_74.2.2.2.2.2.2.2.1 u_r_74.2.2.2.2.2.2.2.2)))] := hD
                        refine lv_goto (tgt := 251) hx hb dX8_reaches_235 (by decide) ?_
                        refine lv_iconst (v := 0) hx hb dX8_reaches_251 (by decide) ?_
                        refine kIret (u := (pL, lI, dP, 0, u_r_63.1, u_r_74.1, u_r_74.2.1, u_r_74.2.2.1, u_r_74.2.2.2.1, u_r_74.2.2.2.2.1, u_r_74.2.2.2.2.2.1, u_r_74.2.2.2.2.2.2.1, u_r_74.2.2.2.2.2.2.2.1, u_r_74.2.2.2.2.2.2.2.2)) hx hb hr rfl hlocks hS dX8_reaches_252 ?_ (hP.sub [0, 1, 2, 3] rfl) (hD.sub [0, 1, 2, 3] (by decide) rfl)
                        try dsimp only
                        try simp only [Int32.reduceToInt, Int64.reduceToInt, true_or, or_true, true_and, and_true]
                        repeat' apply And.intro
                        all_goals first | assumption | omega
                      · have t_225_74 := c_225_74
                        try simp only [kb_eq0, kb_ne0, lg_cmp_lt, lg_cmp_le, lg_cmp_gt, lg_cmp_ge, lg_cmp_eq] at t_225_74
                        try simp only [Int32.lt_iff_toInt_lt, Int32.le_iff_toInt_le, ← Int32.toInt_inj, Int64.lt_iff_toInt_lt, Int64.le_iff_toInt_le, ← Int64.toInt_inj, Int32.toInt_toInt64, Int32.reduceToInt, Int64.reduceToInt] at t_225_74
                        refine lv_iconst (v := 5) hx hb dX8_reaches_228 (by decide) ?_
                        refine kIret (u := (pL, lI, dP, cH, u_r_63.1, u_r_74.1, u_r_74.2.1, u_r_74.2.2.1, u_r_74.2.2.2.1, u_r_74.2.2.2.2.1, u_r_74.2.2.2.2.2.1, u_r_74.2.2.2.2.2.2.1, u_r_74.2.2.2.2.2.2.2.1, u_r_74.2.2.2.2.2.2.2.2)) hx hb hr rfl hlocks hS dX8_reaches_229 ?_ (hP.sub [0, 1, 2, 3] rfl) (hD.sub [0, 1, 2, 3] (by decide) rfl)
                        try dsimp only
                        try simp only [Int32.reduceToInt, Int64.reduceToInt, true_or, or_true, true_and, and_true]
                        repeat' apply And.intro
                        all_goals first | assumption | omega
                  · refine lv_iload_n hx hb dX8_reaches_94 rfl (lv_at hl 3 rfl) ?_
                    refine lv_sipush (v := 256) hx hb dX8_reaches_95 (by decide) ?_
                    refine lv_isub hx hb dX8_reaches_98 ?_
                    refine lv_topi (fun x_76 ex_76 => ?_)
                    obtain rfl : x_76 = 1 := ex_76.trans (by decide)
                    refine lv_istore (lv' := [(4, .int 1), (3, .int 0), (0, .ref m0), (1, .int a), (2, .int 257)]) hx hb dX8_reaches_99 hl (by decide) rfl (fun ls hl => ?_)
                    refine lv_iload_n hx hb dX8_reaches_101 rfl (lv_at hl 3 rfl) ?_
                    rcases ksw_24_27 a with hsw | rfl | rfl | rfl | rfl
                    · refine lv_tableOut (tgt := 238) hx hb dX8_reaches_102 hsw (by decide) ?_
                      refine lv_aload_n hx hb dX8_reaches_238 rfl (lv_at hl 2 rfl) ?_
                      refine va_get (D := D) (ci := 8) (v := .ref mS) (C := RX8) (T := TX8) (N := 31) hx hb hts iX8_reaches_X8 hown hK hP 0 rfl rfl 16 (by decide) (hts (.fieldLink RX8 20 "TapeCalculatorModel" "stands" "[I") (List.mem_of_getElem? (i := 6) rfl)) (fun _ h9 => h9) rfl dX8_reaches_239 ?_
                      refine lv_iload hx hb dX8_reaches_242 (lv_at hl 0 rfl) ?_
                      refine lv_iconst (v := 0) hx hb dX8_reaches_244 (by decide) ?_
                      refine va_iast hx hb hK hP hD hS 3 0 rfl rfl (vp_in_iff.mpr (by decide)) dX8_reaches_245 (fun H locs hP hD hS => ?_)
                      rw [k4i_1] at hP hD
                      have hP : va_P D vwCl [(m0, .inr (8, [.ref mH, .int aM, .long aC, .int mM, .long mQ, .int oV, .int pL, .int lI, .int sW, .int dP, .int sT, .long aT, .int cH, .int u_r_63.1, .ref mI, .ref mJ, .ref mS, .ref mD, .int iH, .int aE, .int mN, .long sZ, .ref mX, .int tS, .int tA, .int tW, .ref mA, .ref mB, .ref mW, .ref mL, .int lS])), (mI, .inl (cL, 1200, .inr (.inl u_r_63.2.1))), (mJ, .inl (cI, 4, .inl (k4i u_r_63.2.2.1 u_r_63.2.2.2.1 u_r_63.2.2.2.2.1 u_r_63.2.2.2.2.2.1))), (mS, .inl (cI, 4, .inl (k4i u_r_63.2.2.2.2.2.2.1 0 u_r_63.2.2.2.2.2.2.2.2.1 u_r_63.2.2.2.2.2.2.2.2.2)))] H := hP
                      have hD : va_D A [(m0, .inr (8, [.ref mH, .int aM, .long aC, .int mM, .long mQ, .int oV, .int pL, .int lI, .int sW, .int dP, .int sT, .long aT, .int cH, .int u_r_63.1, .ref mI, .ref mJ, .ref mS, .ref mD, .int iH, .int aE, .int mN, .long sZ, .ref mX, .int tS, .int tA, .int tW, .ref mA, .ref mB, .ref mW, .ref mL, .int lS])), (mI, .inl (cL, 1200, .inr (.inl u_r_63.2.1))), (mJ, .inl (cI, 4, .inl (k4i u_r_63.2.2.1 u_r_63.2.2.2.1 u_r_63.2.2.2.2.1 u_r_63.2.2.2.2.2.1))), (mS, .inl (cI, 4, .inl (k4i u_r_63.2.2.2.2.2.2.1 0 u_r_63.2.2.2.2.2.2.2.2.1 u_r_63.2.2.2.2.2.2.2.2.2)))] := hD
                      refine lv_aload_n hx hb dX8_reaches_246 rfl (lv_at hl 2 rfl) ?_
                      refine lv_iconst (v := 0) hx hb dX8_reaches_247 (by decide) ?_
                      refine va_put (D := D) (ci := 8) (v := .int 0) (ty := .int) (C := RX8) (T := TX8) (N := 31) hx hb hts iX8_reaches_X8 tyX8 tyX8_ok nmX8 hown hK hP hD hS 0 rfl rfl 12 (by decide) (hts (.fieldLink RX8 43 "TapeCalculatorModel" "chosen" "I") (List.mem_of_getElem? (i := 1) rfl)) (fun _ h9 => h9) rfl (by decide +kernel) rfl rfl (Nat.le_of_ble_eq_true rfl) dX8_reaches_248 (fun H locs hP hD hS => ?_)
                      have hP : va_P D vwCl [(m0, .inr (8, [.ref mH, .int aM, .long aC, .int mM, .long mQ, .int oV, .int pL, .int lI, .int sW, .int dP, .int sT, .long aT, .int 0, .int u_r_63.1, .ref mI, .ref mJ, .ref mS, .ref mD, .int iH, .int aE, .int mN, .long sZ, .ref mX, .int tS, .int tA, .int tW, .ref mA, .ref mB, .ref mW, .ref mL, .int lS])), (mI, .inl (cL, 1200, .inr (.inl u_r_63.2.1))), (mJ, .inl (cI, 4, .inl (k4i u_r_63.2.2.1 u_r_63.2.2.2.1 u_r_63.2.2.2.2.1 u_r_63.2.2.2.2.2.1))), (mS, .inl (cI, 4, .inl (k4i u_r_63.2.2.2.2.2.2.1 0 u_r_63.2.2.2.2.2.2.2.2.1 u_r_63.2.2.2.2.2.2.2.2.2)))] H := hP
                      have hD : va_D A [(m0, .inr (8, [.ref mH, .int aM, .long aC, .int mM, .long mQ, .int oV, .int pL, .int lI, .int sW, .int dP, .int sT, .long aT, .int 0, .int u_r_63.1, .ref mI, .ref mJ, .ref mS, .ref mD, .int iH, .int aE, .int mN, .long sZ, .ref mX, .int tS, .int tA, .int tW, .ref mA, .ref mB, .ref mW, .ref mL, .int lS])), (mI, .inl (cL, 1200, .inr (.inl u_r_63.2.1))), (mJ, .inl (cI, 4, .inl (k4i u_r_63.2.2.1 u_r_63.2.2.2.1 u_r_63.2.2.2.2.1 u_r_63.2.2.2.2.2.1))), (mS, .inl (cI, 4, .inl (k4i u_r_63.2.2.2.2.2.2.1 0 u_r_63.2.2.2.2.2.2.2.2.1 u_r_63.2.2.2.2.2.2.2.2.2)))] := hD
                      refine lv_iconst (v := 0) hx hb dX8_reaches_251 (by decide) ?_
                      refine kIret (u := (pL, lI, dP, 0, u_r_63.1, u_r_63.2.1, u_r_63.2.2.1, u_r_63.2.2.2.1, u_r_63.2.2.2.2.1, u_r_63.2.2.2.2.2.1, u_r_63.2.2.2.2.2.2.1, 0, u_r_63.2.2.2.2.2.2.2.2.1, u_r_63.2.2.2.2.2.2.2.2.2)) hx hb hr rfl hlocks hS dX8_reaches_252 ?_ (hP.sub [0, 1, 2, 3] rfl) (hD.sub [0, 1, 2, 3] (by decide) rfl)
                      try dsimp only
                      try simp only [Int32.reduceToInt, Int64.reduceToInt, true_or, or_true, true_and, and_true]
                      repeat' apply And.intro
                      all_goals first | assumption | omega
                    · refine lv_tableIn (tgt := 132) (off := 30) hx hb dX8_reaches_102 (by decide) (by decide) (by decide) (by decide) ?_
                      refine lv_aload_n hx hb dX8_reaches_132 rfl (lv_at hl 2 rfl) ?_
                      refine lv_iload_n hx hb dX8_reaches_133 rfl (lv_at hl 1 rfl) ?_
                      refine lv_if_eq (tgt := 142) hx hb dX8_reaches_134 (by decide) (fun c_134_76 => ?_) (fun c_134_76 => ?_)
                      · have t_134_76 := c_134_76
                        try simp only [kb_eq0, kb_ne0, lg_cmp_lt, lg_cmp_le, lg_cmp_gt, lg_cmp_ge, lg_cmp_eq] at t_134_76
                        try simp only [Int32.lt_iff_toInt_lt, Int32.le_iff_toInt_le, ← Int32.toInt_inj, Int64.lt_iff_toInt_lt, Int64.le_iff_toInt_le, ← Int64.toInt_inj, Int32.toInt_toInt64, Int32.reduceToInt, Int64.reduceToInt] at t_134_76
                        refine lv_iconst (v := 1) hx hb dX8_reaches_142 (by decide) ?_
                        refine lv_iload hx hb dX8_reaches_143 (lv_at hl 0 rfl) ?_
                        refine lv_iadd hx hb dX8_reaches_145 ?_
                        refine lv_topi (fun x_78 ex_78 => ?_)
                        obtain rfl : x_78 = 2 := ex_78.trans (by decide)
                        refine va_put (D := D) (ci := 8) (v := .int 2) (ty := .int) (C := RX8) (T := TX8) (N := 31) hx hb hts iX8_reaches_X8 tyX8 tyX8_ok nmX8 hown hK hP hD hS 0 rfl rfl 12 (by decide) (hts (.fieldLink RX8 43 "TapeCalculatorModel" "chosen" "I") (List.mem_of_getElem? (i := 1) rfl)) (fun _ h9 => h9) rfl (by decide +kernel) rfl rfl (Nat.le_of_ble_eq_true rfl) dX8_reaches_146 (fun H locs hP hD hS => ?_)
                        have hP : va_P D vwCl [(m0, .inr (8, [.ref mH, .int aM, .long aC, .int mM, .long mQ, .int oV, .int pL, .int lI, .int sW, .int dP, .int sT, .long aT, .int 2, .int u_r_63.1, .ref mI, .ref mJ, .ref mS, .ref mD, .int iH, .int aE, .int mN, .long sZ, .ref mX, .int tS, .int tA, .int tW, .ref mA, .ref mB, .ref mW, .ref mL, .int lS])), (mI, .inl (cL, 1200, .inr (.inl u_r_63.2.1))), (mJ, .inl (cI, 4, .inl (k4i u_r_63.2.2.1 u_r_63.2.2.2.1 u_r_63.2.2.2.2.1 u_r_63.2.2.2.2.2.1))), (mS, .inl (cI, 4, .inl (k4i u_r_63.2.2.2.2.2.2.1 u_r_63.2.2.2.2.2.2.2.1 u_r_63.2.2.2.2.2.2.2.2.1 u_r_63.2.2.2.2.2.2.2.2.2)))] H := hP
                        have hD : va_D A [(m0, .inr (8, [.ref mH, .int aM, .long aC, .int mM, .long mQ, .int oV, .int pL, .int lI, .int sW, .int dP, .int sT, .long aT, .int 2, .int u_r_63.1, .ref mI, .ref mJ, .ref mS, .ref mD, .int iH, .int aE, .int mN, .long sZ, .ref mX, .int tS, .int tA, .int tW, .ref mA, .ref mB, .ref mW, .ref mL, .int lS])), (mI, .inl (cL, 1200, .inr (.inl u_r_63.2.1))), (mJ, .inl (cI, 4, .inl (k4i u_r_63.2.2.1 u_r_63.2.2.2.1 u_r_63.2.2.2.2.1 u_r_63.2.2.2.2.2.1))), (mS, .inl (cI, 4, .inl (k4i u_r_63.2.2.2.2.2.2.1 u_r_63.2.2.2.2.2.2.2.1 u_r_63.2.2.2.2.2.2.2.2.1 u_r_63.2.2.2.2.2.2.2.2.2)))] := hD
                        refine lv_goto (tgt := 251) hx hb dX8_reaches_149 (by decide) ?_
                        refine lv_iconst (v := 0) hx hb dX8_reaches_251 (by decide) ?_
                        refine kIret (u := (pL, lI, dP, 2, u_r_63.1, u_r_63.2.1, u_r_63.2.2.1, u_r_63.2.2.2.1, u_r_63.2.2.2.2.1, u_r_63.2.2.2.2.2.1, u_r_63.2.2.2.2.2.2.1, u_r_63.2.2.2.2.2.2.2.1, u_r_63.2.2.2.2.2.2.2.2.1, u_r_63.2.2.2.2.2.2.2.2.2)) hx hb hr rfl hlocks hS dX8_reaches_252 ?_ (hP.sub [0, 1, 2, 3] rfl) (hD.sub [0, 1, 2, 3] (by decide) rfl)
                        try dsimp only
                        try simp only [Int32.reduceToInt, Int64.reduceToInt, true_or, or_true, true_and, and_true]
                        repeat' apply And.intro
                        all_goals first | assumption | omega
                      · exact absurd (by decide) c_134_76
                    · refine lv_tableIn (tgt := 152) (off := 50) hx hb dX8_reaches_102 (by decide) (by decide) (by decide) (by decide) ?_
                      refine lv_aload_n hx hb dX8_reaches_152 rfl (lv_at hl 2 rfl) ?_
                      refine lv_iconst (v := 5) hx hb dX8_reaches_153 (by decide) ?_
                      refine lv_iload hx hb dX8_reaches_154 (lv_at hl 0 rfl) ?_
                      refine lv_iadd hx hb dX8_reaches_156 ?_
                      refine lv_topi (fun x_79 ex_79 => ?_)
                      obtain rfl : x_79 = 6 := ex_79.trans (by decide)
                      refine va_put (D := D) (ci := 8) (v := .int 6) (ty := .int) (C := RX8) (T := TX8) (N := 31) hx hb hts iX8_reaches_X8 tyX8 tyX8_ok nmX8 hown hK hP hD hS 0 rfl rfl 12 (by decide) (hts (.fieldLink RX8 43 "TapeCalculatorModel" "chosen" "I") (List.mem_of_getElem? (i := 1) rfl)) (fun _ h9 => h9) rfl (by decide +kernel) rfl rfl (Nat.le_of_ble_eq_true rfl) dX8_reaches_157 (fun H locs hP hD hS => ?_)
                      have hP : va_P D vwCl [(m0, .inr (8, [.ref mH, .int aM, .long aC, .int mM, .long mQ, .int oV, .int pL, .int lI, .int sW, .int dP, .int sT, .long aT, .int 6, .int u_r_63.1, .ref mI, .ref mJ, .ref mS, .ref mD, .int iH, .int aE, .int mN, .long sZ, .ref mX, .int tS, .int tA, .int tW, .ref mA, .ref mB, .ref mW, .ref mL, .int lS])), (mI, .inl (cL, 1200, .inr (.inl u_r_63.2.1))), (mJ, .inl (cI, 4, .inl (k4i u_r_63.2.2.1 u_r_63.2.2.2.1 u_r_63.2.2.2.2.1 u_r_63.2.2.2.2.2.1))), (mS, .inl (cI, 4, .inl (k4i u_r_63.2.2.2.2.2.2.1 u_r_63.2.2.2.2.2.2.2.1 u_r_63.2.2.2.2.2.2.2.2.1 u_r_63.2.2.2.2.2.2.2.2.2)))] H := hP
                      have hD : va_D A [(m0, .inr (8, [.ref mH, .int aM, .long aC, .int mM, .long mQ, .int oV, .int pL, .int lI, .int sW, .int dP, .int sT, .long aT, .int 6, .int u_r_63.1, .ref mI, .ref mJ, .ref mS, .ref mD, .int iH, .int aE, .int mN, .long sZ, .ref mX, .int tS, .int tA, .int tW, .ref mA, .ref mB, .ref mW, .ref mL, .int lS])), (mI, .inl (cL, 1200, .inr (.inl u_r_63.2.1))), (mJ, .inl (cI, 4, .inl (k4i u_r_63.2.2.1 u_r_63.2.2.2.1 u_r_63.2.2.2.2.1 u_r_63.2.2.2.2.2.1))), (mS, .inl (cI, 4, .inl (k4i u_r_63.2.2.2.2.2.2.1 u_r_63.2.2.2.2.2.2.2.1 u_r_63.2.2.2.2.2.2.2.2.1 u_r_63.2.2.2.2.2.2.2.2.2)))] := hD
                      refine lv_goto (tgt := 251) hx hb dX8_reaches_160 (by decide) ?_
                      refine lv_iconst (v := 0) hx hb dX8_reaches_251 (by decide) ?_
                      refine kIret (u := (pL, lI, dP, 6, u_r_63.1, u_r_63.2.1, u_r_63.2.2.1, u_r_63.2.2.2.1, u_r_63.2.2.2.2.1, u_r_63.2.2.2.2.2.1, u_r_63.2.2.2.2.2.2.1, u_r_63.2.2.2.2.2.2.2.1, u_r_63.2.2.2.2.2.2.2.2.1, u_r_63.2.2.2.2.2.2.2.2.2)) hx hb hr rfl hlocks hS dX8_reaches_252 ?_ (hP.sub [0, 1, 2, 3] rfl) (hD.sub [0, 1, 2, 3] (by decide) rfl)
                      try dsimp only
                      try simp only [Int32.reduceToInt, Int64.reduceToInt, true_or, or_true, true_and, and_true]
                      repeat' apply And.intro
                      all_goals first | assumption | omega
                    · refine lv_tableIn (tgt := 163) (off := 61) hx hb dX8_reaches_102 (by decide) (by decide) (by decide) (by decide) ?_
                      refine lv_iload_n hx hb dX8_reaches_163 rfl (lv_at hl 1 rfl) ?_
                      refine lv_if_ne (tgt := 181) hx hb dX8_reaches_164 (by decide) (fun c_164_79 => ?_) (fun c_164_79 => ?_)
                      · exact absurd (by decide) c_164_79
                      · have t_164_79 := c_164_79
                        try simp only [kb_eq0, kb_ne0, lg_cmp_lt, lg_cmp_le, lg_cmp_gt, lg_cmp_ge, lg_cmp_eq] at t_164_79
                        try simp only [Int32.lt_iff_toInt_lt, Int32.le_iff_toInt_le, ← Int32.toInt_inj, Int64.lt_iff_toInt_lt, Int64.le_iff_toInt_le, ← Int64.toInt_inj, Int32.toInt_toInt64, Int32.reduceToInt, Int64.reduceToInt] at t_164_79
                        refine lv_aload_n hx hb dX8_reaches_167 rfl (lv_at hl 2 rfl) ?_
                        refine va_get (D := D) (ci := 8) (v := .ref mJ) (C := RX8) (T := TX8) (N := 31) hx hb hts iX8_reaches_X8 hown hK hP 0 rfl rfl 15 (by decide) (hts (.fieldLink RX8 17 "TapeCalculatorModel" "items" "[I") (List.mem_of_getElem? (i := 5) rfl)) (fun _ h9 => h9) rfl dX8_reaches_168 ?_
                        refine lv_iload hx hb dX8_reaches_171 (lv_at hl 0 rfl) ?_
                        refine lv_aload_n hx hb dX8_reaches_173 rfl (lv_at hl 2 rfl) ?_
                        refine va_get (D := D) (ci := 8) (v := .ref mS) (C := RX8) (T := TX8) (N := 31) hx hb hts iX8_reaches_X8 hown hK hP 0 rfl rfl 16 (by decide) (hts (.fieldLink RX8 20 "TapeCalculatorModel" "stands" "[I") (List.mem_of_getElem? (i := 6) rfl)) (fun _ h9 => h9) rfl dX8_reaches_174 ?_
                        refine lv_iload hx hb dX8_reaches_177 (lv_at hl 0 rfl) ?_
                        refine va_iald hx hb hK hP 3 0 rfl rfl (vp_in_iff.mpr (by decide)) dX8_reaches_179 ?_
                        refine lv_topi (fun x_81 ex_81 => ?_)
                        obtain rfl : u_r_63.2.2.2.2.2.2.2.1 = x_81 := ex_81.symm
                        refine va_iast hx hb hK hP hD hS 2 0 rfl rfl (vp_in_iff.mpr (by decide)) dX8_reaches_180 (fun H locs hP hD hS => ?_)
                        rw [k4i_1] at hP hD
                        have hP : va_P D vwCl [(m0, .inr (8, [.ref mH, .int aM, .long aC, .int mM, .long mQ, .int oV, .int pL, .int lI, .int sW, .int dP, .int sT, .long aT, .int cH, .int u_r_63.1, .ref mI, .ref mJ, .ref mS, .ref mD, .int iH, .int aE, .int mN, .long sZ, .ref mX, .int tS, .int tA, .int tW, .ref mA, .ref mB, .ref mW, .ref mL, .int lS])), (mI, .inl (cL, 1200, .inr (.inl u_r_63.2.1))), (mJ, .inl (cI, 4, .inl (k4i u_r_63.2.2.1 (u_r_63.2.2.2.2.2.2.2.1) u_r_63.2.2.2.2.1 u_r_63.2.2.2.2.2.1))), (mS, .inl (cI, 4, .inl (k4i u_r_63.2.2.2.2.2.2.1 u_r_63.2.2.2.2.2.2.2.1 u_r_63.2.2.2.2.2.2.2.2.1 u_r_63.2.2.2.2.2.2.2.2.2)))] H := hP
                        have hD : va_D A [(m0, .inr (8, [.ref mH, .int aM, .long aC, .int mM, .long mQ, .int oV, .int pL, .int lI, .int sW, .int dP, .int sT, .long aT, .int cH, .int u_r_63.1, .ref mI, .ref mJ, .ref mS, .ref mD, .int iH, .int aE, .int mN, .long sZ, .ref mX, .int tS, .int tA, .int tW, .ref mA, .ref mB, .ref mW, .ref mL, .int lS])), (mI, .inl (cL, 1200, .inr (.inl u_r_63.2.1))), (mJ, .inl (cI, 4, .inl (k4i u_r_63.2.2.1 (u_r_63.2.2.2.2.2.2.2.1) u_r_63.2.2.2.2.1 u_r_63.2.2.2.2.2.1))), (mS, .inl (cI, 4, .inl (k4i u_r_63.2.2.2.2.2.2.1 u_r_63.2.2.2.2.2.2.2.1 u_r_63.2.2.2.2.2.2.2.2.1 u_r_63.2.2.2.2.2.2.2.2.2)))] := hD
                        refine lv_aload_n hx hb dX8_reaches_181 rfl (lv_at hl 2 rfl) ?_
                        refine lv_iload_n hx hb dX8_reaches_182 rfl (lv_at hl 1 rfl) ?_
                        refine lv_if_eq (tgt := 191) hx hb dX8_reaches_183 (by decide) (fun c_183_81 => ?_) (fun c_183_81 => ?_)
                        · have t_183_81 := c_183_81
                          try simp only [kb_eq0, kb_ne0, lg_cmp_lt, lg_cmp_le, lg_cmp_gt, lg_cmp_ge, lg_cmp_eq] at t_183_81
                          try simp only [Int32.lt_iff_toInt_lt, Int32.le_iff_toInt_le, ← Int32.toInt_inj, Int64.lt_iff_toInt_lt, Int64.le_iff_toInt_le, ← Int64.toInt_inj, Int32.toInt_toInt64, Int32.reduceToInt, Int64.reduceToInt] at t_183_81
                          refine lv_bipush (v := 9) hx hb dX8_reaches_191 (by decide) ?_
                          refine lv_iload hx hb dX8_reaches_193 (lv_at hl 0 rfl) ?_
                          refine lv_iadd hx hb dX8_reaches_195 ?_
                          refine lv_topi (fun x_83 ex_83 => ?_)
                          obtain rfl : x_83 = 10 := ex_83.trans (by decide)
                          refine va_put (D := D) (ci := 8) (v := .int 10) (ty := .int) (C := RX8) (T := TX8) (N := 31) hx hb hts iX8_reaches_X8 tyX8 tyX8_ok nmX8 hown hK hP hD hS 0 rfl rfl 12 (by decide) (hts (.fieldLink RX8 43 "TapeCalculatorModel" "chosen" "I") (List.mem_of_getElem? (i := 1) rfl)) (fun _ h9 => h9) rfl (by decide +kernel) rfl rfl (Nat.le_of_ble_eq_true rfl) dX8_reaches_196 (fun H locs hP hD hS => ?_)
                          have hP : va_P D vwCl [(m0, .inr (8, [.ref mH, .int aM, .long aC, .int mM, .long mQ, .int oV, .int pL, .int lI, .int sW, .int dP, .int sT, .long aT, .int 10, .int u_r_63.1, .ref mI, .ref mJ, .ref mS, .ref mD, .int iH, .int aE, .int mN, .long sZ, .ref mX, .int tS, .int tA, .int tW, .ref mA, .ref mB, .ref mW, .ref mL, .int lS])), (mI, .inl (cL, 1200, .inr (.inl u_r_63.2.1))), (mJ, .inl (cI, 4, .inl (k4i u_r_63.2.2.1 (u_r_63.2.2.2.2.2.2.2.1) u_r_63.2.2.2.2.1 u_r_63.2.2.2.2.2.1))), (mS, .inl (cI, 4, .inl (k4i u_r_63.2.2.2.2.2.2.1 u_r_63.2.2.2.2.2.2.2.1 u_r_63.2.2.2.2.2.2.2.2.1 u_r_63.2.2.2.2.2.2.2.2.2)))] H := hP
                          have hD : va_D A [(m0, .inr (8, [.ref mH, .int aM, .long aC, .int mM, .long mQ, .int oV, .int pL, .int lI, .int sW, .int dP, .int sT, .long aT, .int 10, .int u_r_63.1, .ref mI, .ref mJ, .ref mS, .ref mD, .int iH, .int aE, .int mN, .long sZ, .ref mX, .int tS, .int tA, .int tW, .ref mA, .ref mB, .ref mW, .ref mL, .int lS])), (mI, .inl (cL, 1200, .inr (.inl u_r_63.2.1))), (mJ, .inl (cI, 4, .inl (k4i u_r_63.2.2.1 (u_r_63.2.2.2.2.2.2.2.1) u_r_63.2.2.2.2.1 u_r_63.2.2.2.2.2.1))), (mS, .inl (cI, 4, .inl (k4i u_r_63.2.2.2.2.2.2.1 u_r_63.2.2.2.2.2.2.2.1 u_r_63.2.2.2.2.2.2.2.2.1 u_r_63.2.2.2.2.2.2.2.2.2)))] := hD
                          refine lv_goto (tgt := 251) hx hb dX8_reaches_199 (by decide) ?_
                          refine lv_iconst (v := 0) hx hb dX8_reaches_251 (by decide) ?_
                          refine kIret (u := (pL, lI, dP, 10, u_r_63.1, u_r_63.2.1, u_r_63.2.2.1, (u_r_63.2.2.2.2.2.2.2.1), u_r_63.2.2.2.2.1, u_r_63.2.2.2.2.2.1, u_r_63.2.2.2.2.2.2.1, u_r_63.2.2.2.2.2.2.2.1, u_r_63.2.2.2.2.2.2.2.2.1, u_r_63.2.2.2.2.2.2.2.2.2)) hx hb hr rfl hlocks hS dX8_reaches_252 ?_ (hP.sub [0, 1, 2, 3] rfl) (hD.sub [0, 1, 2, 3] (by decide) rfl)
                          try dsimp only
                          try simp only [Int32.reduceToInt, Int64.reduceToInt, true_or, or_true, true_and, and_true]
                          repeat' apply And.intro
                          all_goals first | assumption | omega
                        · exact absurd (by decide) c_183_81
                    · refine lv_tableIn (tgt := 202) (off := 100) hx hb dX8_reaches_102 (by decide) (by decide) (by decide) (by decide) ?_
                      refine lv_aload_n hx hb dX8_reaches_202 rfl (lv_at hl 2 rfl) ?_
                      refine va_get (D := D) (ci := 8) (v := .ref mJ) (C := RX8) (T := TX8) (N := 31) hx hb hts iX8_reaches_X8 hown hK hP 0 rfl rfl 15 (by decide) (hts (.fieldLink RX8 17 "TapeCalculatorModel" "items" "[I") (List.mem_of_getElem? (i := 5) rfl)) (fun _ h9 => h9) rfl dX8_reaches_203 ?_
                      refine lv_iload hx hb dX8_reaches_206 (lv_at hl 0 rfl) ?_
                      refine lv_aload_n hx hb dX8_reaches_208 rfl (lv_at hl 2 rfl) ?_
                      refine va_get (D := D) (ci := 8) (v := .ref mS) (C := RX8) (T := TX8) (N := 31) hx hb hts iX8_reaches_X8 hown hK hP 0 rfl rfl 16 (by decide) (hts (.fieldLink RX8 20 "TapeCalculatorModel" "stands" "[I") (List.mem_of_getElem? (i := 6) rfl)) (fun _ h9 => h9) rfl dX8_reaches_209 ?_
                      refine lv_iload hx hb dX8_reaches_212 (lv_at hl 0 rfl) ?_
                      refine va_iald hx hb hK hP 3 0 rfl rfl (vp_in_iff.mpr (by decide)) dX8_reaches_214 ?_
                      refine lv_topi (fun x_84 ex_84 => ?_)
                      obtain rfl : u_r_63.2.2.2.2.2.2.2.1 = x_84 := ex_84.symm
                      refine va_iast hx hb hK hP hD hS 2 0 rfl rfl (vp_in_iff.mpr (by decide)) dX8_reaches_215 (fun H locs hP hD hS => ?_)
                      rw [k4i_1] at hP hD
                      have hP : va_P D vwCl [(m0, .inr (8, [.ref mH, .int aM, .long aC, .int mM, .long mQ, .int oV, .int pL, .int lI, .int sW, .int dP, .int sT, .long aT, .int cH, .int u_r_63.1, .ref mI, .ref mJ, .ref mS, .ref mD, .int iH, .int aE, .int mN, .long sZ, .ref mX, .int tS, .int tA, .int tW, .ref mA, .ref mB, .ref mW, .ref mL, .int lS])), (mI, .inl (cL, 1200, .inr (.inl u_r_63.2.1))), (mJ, .inl (cI, 4, .inl (k4i u_r_63.2.2.1 (u_r_63.2.2.2.2.2.2.2.1) u_r_63.2.2.2.2.1 u_r_63.2.2.2.2.2.1))), (mS, .inl (cI, 4, .inl (k4i u_r_63.2.2.2.2.2.2.1 u_r_63.2.2.2.2.2.2.2.1 u_r_63.2.2.2.2.2.2.2.2.1 u_r_63.2.2.2.2.2.2.2.2.2)))] H := hP
                      have hD : va_D A [(m0, .inr (8, [.ref mH, .int aM, .long aC, .int mM, .long mQ, .int oV, .int pL, .int lI, .int sW, .int dP, .int sT, .long aT, .int cH, .int u_r_63.1, .ref mI, .ref mJ, .ref mS, .ref mD, .int iH, .int aE, .int mN, .long sZ, .ref mX, .int tS, .int tA, .int tW, .ref mA, .ref mB, .ref mW, .ref mL, .int lS])), (mI, .inl (cL, 1200, .inr (.inl u_r_63.2.1))), (mJ, .inl (cI, 4, .inl (k4i u_r_63.2.2.1 (u_r_63.2.2.2.2.2.2.2.1) u_r_63.2.2.2.2.1 u_r_63.2.2.2.2.2.1))), (mS, .inl (cI, 4, .inl (k4i u_r_63.2.2.2.2.2.2.1 u_r_63.2.2.2.2.2.2.2.1 u_r_63.2.2.2.2.2.2.2.2.1 u_r_63.2.2.2.2.2.2.2.2.2)))] := hD
                      refine lv_aload_n hx hb dX8_reaches_216 rfl (lv_at hl 2 rfl) ?_
                      refine lv_iload hx hb dX8_reaches_217 (lv_at hl 0 rfl) ?_
                      refine lv_ldc2 (v := (-3)) hx hb hown (hts (.constantLong RX8 113 (-3)) (List.mem_of_getElem? (i := 7) rfl)) dX8_reaches_219 ?_
                      refine kCallI (wr := []) (va_runV (As := [.int 1, .long (-3)]) (rest := []) ⟨hx, hb, hml, hown, hts⟩ (q_puts l D cI cL cB cZ cT _ m0 mH mI mJ mS mD mX mA mB mW mL aM aC mM mQ oV pL lI sW dP sT aT cH (u_r_63.1) iH aE mN sZ tS tA tW lS (u_r_63.2.1) (u_r_63.2.2.1) (u_r_63.2.2.2.2.2.2.2.1) (u_r_63.2.2.2.2.1) (u_r_63.2.2.2.2.2.1) (u_r_63.2.2.2.2.2.2.1) (u_r_63.2.2.2.2.2.2.2.1) (u_r_63.2.2.2.2.2.2.2.2.1) (u_r_63.2.2.2.2.2.2.2.2.2) 1 (-3) (by omega) (by decide)) (cwV 2 hts gX8_reaches_X8_puts rfl rfl rfl (by decide +kernel) ⟨Nat.le_of_ble_eq_true rfl, Nat.le_of_ble_eq_true rfl⟩) (kPreV hG hP hD [0, 1, 2, 3] rfl (by decide) 0 8 rfl rfl rfl) rfl rfl hl.1 rfl (lv_room (Nat.le_of_ble_eq_true rfl)) dX8_reaches_222 ⟨Nat.le_of_ble_eq_true rfl, Nat.le_of_ble_eq_true rfl⟩) hA hP hD hS [0, 1, 2, 3] [] rfl rfl (by decide) (by decide) (fun r_85 u_r_85 H locs wr_85 hP hD hS => ?_)
                      have hP : va_P D vwCl [(m0, .inr (8, [.ref mH, .int aM, .long aC, .int mM, .long mQ, .int oV, .int pL, .int lI, .int sW, .int dP, .int sT, .long aT, .int cH, .int u_r_63.1, .ref mI, .ref mJ, .ref mS, .ref mD, .int iH, .int aE, .int mN, .long sZ, .ref mX, .int tS, .int tA, .int tW, .ref mA, .ref mB, .ref mW, .ref mL, .int lS])), (mI, .inl (cL, 1200, .inr (.inl u_r_85.1))), (mJ, .inl (cI, 4, .inl (k4i u_r_85.2.1 u_r_85.2.2.1 u_r_85.2.2.2.1 u_r_85.2.2.2.2.1))), (mS, .inl (cI, 4, .inl (k4i u_r_85.2.2.2.2.2.1 u_r_85.2.2.2.2.2.2.1 u_r_85.2.2.2.2.2.2.2.1 u_r_85.2.2.2.2.2.2.2.2)))] H := hP
                      have hD : va_D A [(m0, .inr (8, [.ref mH, .int aM, .long aC, .int mM, .long mQ, .int oV, .int pL, .int lI, .int sW, .int dP, .int sT, .long aT, .int cH, .int u_r_63.1, .ref mI, .ref mJ, .ref mS, .ref mD, .int iH, .int aE, .int mN, .long sZ, .ref mX, .int tS, .int tA, .int tW, .ref mA, .ref mB, .ref mW, .ref mL, .int lS])), (mI, .inl (cL, 1200, .inr (.inl u_r_85.1))), (mJ, .inl (cI, 4, .inl (k4i u_r_85.2.1 u_r_85.2.2.1 u_r_85.2.2.2.1 u_r_85.2.2.2.2.1))), (mS, .inl (cI, 4, .inl (k4i u_r_85.2.2.2.2.2.1 u_r_85.2.2.2.2.2.2.1 u_r_85.2.2.2.2.2.2.2.1 u_r_85.2.2.2.2.2.2.2.2)))] := hD
                      try dsimp only at wr_85
                      try simp only [Int32.reduceToInt, Int64.reduceToInt] at wr_85
                      refine lv_if_ne (tgt := 230) hx hb dX8_reaches_225 (by decide) (fun c_225_85 => ?_) (fun c_225_85 => ?_)
                      · have t_225_85 := c_225_85
                        try simp only [kb_eq0, kb_ne0, lg_cmp_lt, lg_cmp_le, lg_cmp_gt, lg_cmp_ge, lg_cmp_eq] at t_225_85
                        try simp only [Int32.lt_iff_toInt_lt, Int32.le_iff_toInt_le, ← Int32.toInt_inj, Int64.lt_iff_toInt_lt, Int64.le_iff_toInt_le, ← Int64.toInt_inj, Int32.toInt_toInt64, Int32.reduceToInt, Int64.reduceToInt] at t_225_85
                        refine lv_aload_n hx hb dX8_reaches_230 rfl (lv_at hl 2 rfl) ?_
                        refine lv_iconst (v := 0) hx hb dX8_reaches_231 (by decide) ?_
                        refine va_put (D := D) (ci := 8) (v := .int 0) (ty := .int) (C := RX8) (T := TX8) (N := 31) hx hb hts iX8_reaches_X8 tyX8 tyX8_ok nmX8 hown hK hP hD hS 0 rfl rfl 12 (by decide) (hts (.fieldLink RX8 43 "TapeCalculatorModel" "chosen" "I") (List.mem_of_getElem? (i := 1) rfl)) (fun _ h9 => h9) rfl (by decide +kernel) rfl rfl (Nat.le_of_ble_eq_true rfl) dX8_reaches_232 (fun H locs hP hD hS => ?_)
                        have hP : va_P D vwCl [(m0, .inr (8, [.ref mH, .int aM, .long aC, .int mM, .long mQ, .int oV, .int pL, .int lI, .int sW, .int dP, .int sT, .long aT, .int 0, .int u_r_63.1, .ref mI, .ref mJ, .ref mS, .ref mD, .int iH, .int aE, .int mN, .long sZ, .ref mX, .int tS, .int tA, .int tW, .ref mA, .ref mB, .ref mW, .ref mL, .int lS])), (mI, .inl (cL, 1200, .inr (.inl u_r_85.1))), (mJ, .inl (cI, 4, .inl (k4i u_r_85.2.1 u_r_85.2.2.1 u_r_85.2.2.2.1 u_r_85.2.2.2.2.1))), (mS, .inl (cI, 4, .inl (k4i u_r_85.2.2.2.2.2.1 u_r_85.2.2.2.2.2.2.1 u_r_85.2.2.2.2.2.2.2.1 u_r_85.2.2.2.2.2.2.2.2)))] H := hP
                        have hD : va_D A [(m0, .inr (8, [.ref mH, .int aM, .long aC, .int mM, .long mQ, .int oV, .int pL, .int lI, .int sW, .int dP, .int sT, .long aT, .int 0, .int u_r_63.1, .ref mI, .ref mJ, .ref mS, .ref mD, .int iH, .int aE, .int mN, .long sZ, .ref mX, .int tS, .int tA, .int tW, .ref mA, .ref mB, .ref mW, .ref mL, .int lS])), (mI, .inl (cL, 1200, .inr (.inl u_r_85.1))), (mJ, .inl (cI, 4, .inl (k4i u_r_85.2.1 u_r_85.2.2.1 u_r_85.2.2.2.1 u_r_85.2.2.2.2.1))), (mS, .inl (cI, 4, .inl (k4i u_r_85.2.2.2.2.2.1 u_r_85.2.2.2.2.2.2.1 u_r_85.2.2.2.2.2.2.2.1 u_r_85.2.2.2.2.2.2.2.2)))] := hD
                        refine lv_goto (tgt := 251) hx hb dX8_reaches_235 (by decide) ?_
                        refine lv_iconst (v := 0) hx hb dX8_reaches_251 (by decide) ?_
                        refine kIret (u := (pL, lI, dP, 0, u_r_63.1, u_r_85.1, u_r_85.2.1, u_r_85.2.2.1, u_r_85.2.2.2.1, u_r_85.2.2.2.2.1, u_r_85.2.2.2.2.2.1, u_r_85.2.2.2.2.2.2.1, u_r_85.2.2.2.2.2.2.2.1, u_r_85.2.2.2.2.2.2.2.2)) hx hb hr rfl hlocks hS dX8_reaches_252 ?_ (hP.sub [0, 1, 2, 3] rfl) (hD.sub [0, 1, 2, 3] (by decide) rfl)
                        try dsimp only
                        try simp only [Int32.reduceToInt, Int64.reduceToInt, true_or, or_true, true_and, and_true]
                        repeat' apply And.intro
                        all_goals first | assumption | omega
                      · have t_225_85 := c_225_85
                        try simp only [kb_eq0, kb_ne0, lg_cmp_lt, lg_cmp_le, lg_cmp_gt, lg_cmp_ge, lg_cmp_eq] at t_225_85
                        try simp only [Int32.lt_iff_toInt_lt, Int32.le_iff_toInt_le, ← Int32.toInt_inj, Int64.lt_iff_toInt_lt, Int64.le_iff_toInt_le, ← Int64.toInt_inj, Int32.toInt_toInt64, Int32.reduceToInt, Int64.reduceToInt] at t_225_85
                        refine lv_iconst (v := 5) hx hb dX8_reaches_228 (by decide) ?_
                        refine kIret (u := (pL, lI, dP, cH, u_r_63.1, u_r_85.1, u_r_85.2.1, u_r_85.2.2.1, u_r_85.2.2.2.1, u_r_85.2.2.2.2.1, u_r_85.2.2.2.2.2.1, u_r_85.2.2.2.2.2.2.1, u_r_85.2.2.2.2.2.2.2.1, u_r_85.2.2.2.2.2.2.2.2)) hx hb hr rfl hlocks hS dX8_reaches_229 ?_ (hP.sub [0, 1, 2, 3] rfl) (hD.sub [0, 1, 2, 3] (by decide) rfl)
                        try dsimp only
                        try simp only [Int32.reduceToInt, Int64.reduceToInt, true_or, or_true, true_and, and_true]
                        repeat' apply And.intro
                        all_goals first | assumption | omega
                  · refine lv_iload_n hx hb dX8_reaches_94 rfl (lv_at hl 3 rfl) ?_
                    refine lv_sipush (v := 256) hx hb dX8_reaches_95 (by decide) ?_
                    refine lv_isub hx hb dX8_reaches_98 ?_
                    refine lv_topi (fun x_87 ex_87 => ?_)
                    obtain rfl : x_87 = 2 := ex_87.trans (by decide)
                    refine lv_istore (lv' := [(4, .int 2), (3, .int 0), (0, .ref m0), (1, .int a), (2, .int 258)]) hx hb dX8_reaches_99 hl (by decide) rfl (fun ls hl => ?_)
                    refine lv_iload_n hx hb dX8_reaches_101 rfl (lv_at hl 3 rfl) ?_
                    rcases ksw_24_27 a with hsw | rfl | rfl | rfl | rfl
                    · refine lv_tableOut (tgt := 238) hx hb dX8_reaches_102 hsw (by decide) ?_
                      refine lv_aload_n hx hb dX8_reaches_238 rfl (lv_at hl 2 rfl) ?_
                      refine va_get (D := D) (ci := 8) (v := .ref mS) (C := RX8) (T := TX8) (N := 31) hx hb hts iX8_reaches_X8 hown hK hP 0 rfl rfl 16 (by decide) (hts (.fieldLink RX8 20 "TapeCalculatorModel" "stands" "[I") (List.mem_of_getElem? (i := 6) rfl)) (fun _ h9 => h9) rfl dX8_reaches_239 ?_
                      refine lv_iload hx hb dX8_reaches_242 (lv_at hl 0 rfl) ?_
                      refine lv_iconst (v := 0) hx hb dX8_reaches_244 (by decide) ?_
                      refine va_iast hx hb hK hP hD hS 3 0 rfl rfl (vp_in_iff.mpr (by decide)) dX8_reaches_245 (fun H locs hP hD hS => ?_)
                      rw [k4i_2] at hP hD
                      have hP : va_P D vwCl [(m0, .inr (8, [.ref mH, .int aM, .long aC, .int mM, .long mQ, .int oV, .int pL, .int lI, .int sW, .int dP, .int sT, .long aT, .int cH, .int u_r_63.1, .ref mI, .ref mJ, .ref mS, .ref mD, .int iH, .int aE, .int mN, .long sZ, .ref mX, .int tS, .int tA, .int tW, .ref mA, .ref mB, .ref mW, .ref mL, .int lS])), (mI, .inl (cL, 1200, .inr (.inl u_r_63.2.1))), (mJ, .inl (cI, 4, .inl (k4i u_r_63.2.2.1 u_r_63.2.2.2.1 u_r_63.2.2.2.2.1 u_r_63.2.2.2.2.2.1))), (mS, .inl (cI, 4, .inl (k4i u_r_63.2.2.2.2.2.2.1 u_r_63.2.2.2.2.2.2.2.1 0 u_r_63.2.2.2.2.2.2.2.2.2)))] H := hP
                      have hD : va_D A [(m0, .inr (8, [.ref mH, .int aM, .long aC, .int mM, .long mQ, .int oV, .int pL, .int lI, .int sW, .int dP, .int sT, .long aT, .int cH, .int u_r_63.1, .ref mI, .ref mJ, .ref mS, .ref mD, .int iH, .int aE, .int mN, .long sZ, .ref mX, .int tS, .int tA, .int tW, .ref mA, .ref mB, .ref mW, .ref mL, .int lS])), (mI, .inl (cL, 1200, .inr (.inl u_r_63.2.1))), (mJ, .inl (cI, 4, .inl (k4i u_r_63.2.2.1 u_r_63.2.2.2.1 u_r_63.2.2.2.2.1 u_r_63.2.2.2.2.2.1))), (mS, .inl (cI, 4, .inl (k4i u_r_63.2.2.2.2.2.2.1 u_r_63.2.2.2.2.2.2.2.1 0 u_r_63.2.2.2.2.2.2.2.2.2)))] := hD
                      refine lv_aload_n hx hb dX8_reaches_246 rfl (lv_at hl 2 rfl) ?_
                      refine lv_iconst (v := 0) hx hb dX8_reaches_247 (by decide) ?_
                      refine va_put (D := D) (ci := 8) (v := .int 0) (ty := .int) (C := RX8) (T := TX8) (N := 31) hx hb hts iX8_reaches_X8 tyX8 tyX8_ok nmX8 hown hK hP hD hS 0 rfl rfl 12 (by decide) (hts (.fieldLink RX8 43 "TapeCalculatorModel" "chosen" "I") (List.mem_of_getElem? (i := 1) rfl)) (fun _ h9 => h9) rfl (by decide +kernel) rfl rfl (Nat.le_of_ble_eq_true rfl) dX8_reaches_248 (fun H locs hP hD hS => ?_)
                      have hP : va_P D vwCl [(m0, .inr (8, [.ref mH, .int aM, .long aC, .int mM, .long mQ, .int oV, .int pL, .int lI, .int sW, .int dP, .int sT, .long aT, .int 0, .int u_r_63.1, .ref mI, .ref mJ, .ref mS, .ref mD, .int iH, .int aE, .int mN, .long sZ, .ref mX, .int tS, .int tA, .int tW, .ref mA, .ref mB, .ref mW, .ref mL, .int lS])), (mI, .inl (cL, 1200, .inr (.inl u_r_63.2.1))), (mJ, .inl (cI, 4, .inl (k4i u_r_63.2.2.1 u_r_63.2.2.2.1 u_r_63.2.2.2.2.1 u_r_63.2.2.2.2.2.1))), (mS, .inl (cI, 4, .inl (k4i u_r_63.2.2.2.2.2.2.1 u_r_63.2.2.2.2.2.2.2.1 0 u_r_63.2.2.2.2.2.2.2.2.2)))] H := hP
                      have hD : va_D A [(m0, .inr (8, [.ref mH, .int aM, .long aC, .int mM, .long mQ, .int oV, .int pL, .int lI, .int sW, .int dP, .int sT, .long aT, .int 0, .int u_r_63.1, .ref mI, .ref mJ, .ref mS, .ref mD, .int iH, .int aE, .int mN, .long sZ, .ref mX, .int tS, .int tA, .int tW, .ref mA, .ref mB, .ref mW, .ref mL, .int lS])), (mI, .inl (cL, 1200, .inr (.inl u_r_63.2.1))), (mJ, .inl (cI, 4, .inl (k4i u_r_63.2.2.1 u_r_63.2.2.2.1 u_r_63.2.2.2.2.1 u_r_63.2.2.2.2.2.1))), (mS, .inl (cI, 4, .inl (k4i u_r_63.2.2.2.2.2.2.1 u_r_63.2.2.2.2.2.2.2.1 0 u_r_63.2.2.2.2.2.2.2.2.2)))] := hD
                      refine lv_iconst (v := 0) hx hb dX8_reaches_251 (by decide) ?_
                      refine kIret (u := (pL, lI, dP, 0, u_r_63.1, u_r_63.2.1, u_r_63.2.2.1, u_r_63.2.2.2.1, u_r_63.2.2.2.2.1, u_r_63.2.2.2.2.2.1, u_r_63.2.2.2.2.2.2.1, u_r_63.2.2.2.2.2.2.2.1, 0, u_r_63.2.2.2.2.2.2.2.2.2)) hx hb hr rfl hlocks hS dX8_reaches_252 ?_ (hP.sub [0, 1, 2, 3] rfl) (hD.sub [0, 1, 2, 3] (by decide) rfl)
                      try dsimp only
                      try simp only [Int32.reduceToInt, Int64.reduceToInt, true_or, or_true, true_and, and_true]
                      repeat' apply And.intro
                      all_goals first | assumption | omega
                    · refine lv_tableIn (tgt := 132) (off := 30) hx hb dX8_reaches_102 (by decide) (by decide) (by decide) (by decide) ?_
                      refine lv_aload_n hx hb dX8_reaches_132 rfl (lv_at hl 2 rfl) ?_
                      refine lv_iload_n hx hb dX8_reaches_133 rfl (lv_at hl 1 rfl) ?_
                      refine lv_if_eq (tgt := 142) hx hb dX8_reaches_134 (by decide) (fun c_134_87 => ?_) (fun c_134_87 => ?_)
                      · have t_134_87 := c_134_87
                        try simp only [kb_eq0, kb_ne0, lg_cmp_lt, lg_cmp_le, lg_cmp_gt, lg_cmp_ge, lg_cmp_eq] at t_134_87
                        try simp only [Int32.lt_iff_toInt_lt, Int32.le_iff_toInt_le, ← Int32.toInt_inj, Int64.lt_iff_toInt_lt, Int64.le_iff_toInt_le, ← Int64.toInt_inj, Int32.toInt_toInt64, Int32.reduceToInt, Int64.reduceToInt] at t_134_87
                        refine lv_iconst (v := 1) hx hb dX8_reaches_142 (by decide) ?_
                        refine lv_iload hx hb dX8_reaches_143 (lv_at hl 0 rfl) ?_
                        refine lv_iadd hx hb dX8_reaches_145 ?_
                        refine lv_topi (fun x_89 ex_89 => ?_)
                        obtain rfl : x_89 = 3 := ex_89.trans (by decide)
                        refine va_put (D := D) (ci := 8) (v := .int 3) (ty := .int) (C := RX8) (T := TX8) (N := 31) hx hb hts iX8_reaches_X8 tyX8 tyX8_ok nmX8 hown hK hP hD hS 0 rfl rfl 12 (by decide) (hts (.fieldLink RX8 43 "TapeCalculatorModel" "chosen" "I") (List.mem_of_getElem? (i := 1) rfl)) (fun _ h9 => h9) rfl (by decide +kernel) rfl rfl (Nat.le_of_ble_eq_true rfl) dX8_reaches_146 (fun H locs hP hD hS => ?_)
                        have hP : va_P D vwCl [(m0, .inr (8, [.ref mH, .int aM, .long aC, .int mM, .long mQ, .int oV, .int pL, .int lI, .int sW, .int dP, .int sT, .long aT, .int 3, .int u_r_63.1, .ref mI, .ref mJ, .ref mS, .ref mD, .int iH, .int aE, .int mN, .long sZ, .ref mX, .int tS, .int tA, .int tW, .ref mA, .ref mB, .ref mW, .ref mL, .int lS])), (mI, .inl (cL, 1200, .inr (.inl u_r_63.2.1))), (mJ, .inl (cI, 4, .inl (k4i u_r_63.2.2.1 u_r_63.2.2.2.1 u_r_63.2.2.2.2.1 u_r_63.2.2.2.2.2.1))), (mS, .inl (cI, 4, .inl (k4i u_r_63.2.2.2.2.2.2.1 u_r_63.2.2.2.2.2.2.2.1 u_r_63.2.2.2.2.2.2.2.2.1 u_r_63.2.2.2.2.2.2.2.2.2)))] H := hP
                        have hD : va_D A [(m0, .inr (8, [.ref mH, .int aM, .long aC, .int mM, .long mQ, .int oV, .int pL, .int lI, .int sW, .int dP, .int sT, .long aT, .int 3, .int u_r_63.1, .ref mI, .ref mJ, .ref mS, .ref mD, .int iH, .int aE, .int mN, .long sZ, .ref mX, .int tS, .int tA, .int tW, .ref mA, .ref mB, .ref mW, .ref mL, .int lS])), (mI, .inl (cL, 1200, .inr (.inl u_r_63.2.1))), (mJ, .inl (cI, 4, .inl (k4i u_r_63.2.2.1 u_r_63.2.2.2.1 u_r_63.2.2.2.2.1 u_r_63.2.2.2.2.2.1))), (mS, .inl (cI, 4, .inl (k4i u_r_63.2.2.2.2.2.2.1 u_r_63.2.2.2.2.2.2.2.1 u_r_63.2.2.2.2.2.2.2.2.1 u_r_63.2.2.2.2.2.2.2.2.2)))] := hD
                        refine lv_goto (tgt := 251) hx hb dX8_reaches_149 (by decide) ?_
                        refine lv_iconst (v := 0) hx hb dX8_reaches_251 (by decide) ?_
                        refine kIret (u := (pL, lI, dP, 3, u_r_63.1, u_r_63.2.1, u_r_63.2.2.1, u_r_63.2.2.2.1, u_r_63.2.2.2.2.1, u_r_63.2.2.2.2.2.1, u_r_63.2.2.2.2.2.2.1, u_r_63.2.2.2.2.2.2.2.1, u_r_63.2.2.2.2.2.2.2.2.1, u_r_63.2.2.2.2.2.2.2.2.2)) hx hb hr rfl hlocks hS dX8_reaches_252 ?_ (hP.sub [0, 1, 2, 3] rfl) (hD.sub [0, 1, 2, 3] (by decide) rfl)
                        try dsimp only
                        try simp only [Int32.reduceToInt, Int64.reduceToInt, true_or, or_true, true_and, and_true]
                        repeat' apply And.intro
                        all_goals first | assumption | omega
                      · exact absurd (by decide) c_134_87
                    · refine lv_tableIn (tgt := 152) (off := 50) hx hb dX8_reaches_102 (by decide) (by decide) (by decide) (by decide) ?_
                      refine lv_aload_n hx hb dX8_reaches_152 rfl (lv_at hl 2 rfl) ?_
                      refine lv_iconst (v := 5) hx hb dX8_reaches_153 (by decide) ?_
                      refine lv_iload hx hb dX8_reaches_154 (lv_at hl 0 rfl) ?_
                      refine lv_iadd hx hb dX8_reaches_156 ?_
                      refine lv_topi (fun x_90 ex_90 => ?_)
                      obtain rfl : x_90 = 7 := ex_90.trans (by decide)
                      refine va_put (D := D) (ci := 8) (v := .int 7) (ty := .int) (C := RX8) (T := TX8) (N := 31) hx hb hts iX8_reaches_X8 tyX8 tyX8_ok nmX8 hown hK hP hD hS 0 rfl rfl 12 (by decide) (hts (.fieldLink RX8 43 "TapeCalculatorModel" "chosen" "I") (List.mem_of_getElem? (i := 1) rfl)) (fun _ h9 => h9) rfl (by decide +kernel) rfl rfl (Nat.le_of_ble_eq_true rfl) dX8_reaches_157 (fun H locs hP hD hS => ?_)
                      have hP : va_P D vwCl [(m0, .inr (8, [.ref mH, .int aM, .long aC, .int mM, .long mQ, .int oV, .int pL, .int lI, .int sW, .int dP, .int sT, .long aT, .int 7, .int u_r_63.1, .ref mI, .ref mJ, .ref mS, .ref mD, .int iH, .int aE, .int mN, .long sZ, .ref mX, .int tS, .int tA, .int tW, .ref mA, .ref mB, .ref mW, .ref mL, .int lS])), (mI, .inl (cL, 1200, .inr (.inl u_r_63.2.1))), (mJ, .inl (cI, 4, .inl (k4i u_r_63.2.2.1 u_r_63.2.2.2.1 u_r_63.2.2.2.2.1 u_r_63.2.2.2.2.2.1))), (mS, .inl (cI, 4, .inl (k4i u_r_63.2.2.2.2.2.2.1 u_r_63.2.2.2.2.2.2.2.1 u_r_63.2.2.2.2.2.2.2.2.1 u_r_63.2.2.2.2.2.2.2.2.2)))] H := hP
                      have hD : va_D A [(m0, .inr (8, [.ref mH, .int aM, .long aC, .int mM, .long mQ, .int oV, .int pL, .int lI, .int sW, .int dP, .int sT, .long aT, .int 7, .int u_r_63.1, .ref mI, .ref mJ, .ref mS, .ref mD, .int iH, .int aE, .int mN, .long sZ, .ref mX, .int tS, .int tA, .int tW, .ref mA, .ref mB, .ref mW, .ref mL, .int lS])), (mI, .inl (cL, 1200, .inr (.inl u_r_63.2.1))), (mJ, .inl (cI, 4, .inl (k4i u_r_63.2.2.1 u_r_63.2.2.2.1 u_r_63.2.2.2.2.1 u_r_63.2.2.2.2.2.1))), (mS, .inl (cI, 4, .inl (k4i u_r_63.2.2.2.2.2.2.1 u_r_63.2.2.2.2.2.2.2.1 u_r_63.2.2.2.2.2.2.2.2.1 u_r_63.2.2.2.2.2.2.2.2.2)))] := hD
                      refine lv_goto (tgt := 251) hx hb dX8_reaches_160 (by decide) ?_
                      refine lv_iconst (v := 0) hx hb dX8_reaches_251 (by decide) ?_
                      refine kIret (u := (pL, lI, dP, 7, u_r_63.1, u_r_63.2.1, u_r_63.2.2.1, u_r_63.2.2.2.1, u_r_63.2.2.2.2.1, u_r_63.2.2.2.2.2.1, u_r_63.2.2.2.2.2.2.1, u_r_63.2.2.2.2.2.2.2.1, u_r_63.2.2.2.2.2.2.2.2.1, u_r_63.2.2.2.2.2.2.2.2.2)) hx hb hr rfl hlocks hS dX8_reaches_252 ?_ (hP.sub [0, 1, 2, 3] rfl) (hD.sub [0, 1, 2, 3] (by decide) rfl)
                      try dsimp only
                      try simp only [Int32.reduceToInt, Int64.reduceToInt, true_or, or_true, true_and, and_true]
                      repeat' apply And.intro
                      all_goals first | assumption | omega
                    · refine lv_tableIn (tgt := 163) (off := 61) hx hb dX8_reaches_102 (by decide) (by decide) (by decide) (by decide) ?_
                      refine lv_iload_n hx hb dX8_reaches_163 rfl (lv_at hl 1 rfl) ?_
                      refine lv_if_ne (tgt := 181) hx hb dX8_reaches_164 (by decide) (fun c_164_90 => ?_) (fun c_164_90 => ?_)
                      · exact absurd (by decide) c_164_90
                      · have t_164_90 := c_164_90
                        try simp only [kb_eq0, kb_ne0, lg_cmp_lt, lg_cmp_le, lg_cmp_gt, lg_cmp_ge, lg_cmp_eq] at t_164_90
                        try simp only [Int32.lt_iff_toInt_lt, Int32.le_iff_toInt_le, ← Int32.toInt_inj, Int64.lt_iff_toInt_lt, Int64.le_iff_toInt_le, ← Int64.toInt_inj, Int32.toInt_toInt64, Int32.reduceToInt, Int64.reduceToInt] at t_164_90
                        refine lv_aload_n hx hb dX8_reaches_167 rfl (lv_at hl 2 rfl) ?_
                        refine va_get (D := D) (ci := 8) (v := .ref mJ) (C := RX8) (T := TX8) (N := 31) hx hb hts iX8_reaches_X8 hown hK hP 0 rfl rfl 15 (by decide) (hts (.fieldLink RX8 17 "TapeCalculatorModel" "items" "[I") (List.mem_of_getElem? (i := 5) rfl)) (fun _ h9 => h9) rfl dX8_reaches_168 ?_
                        refine lv_iload hx hb dX8_reaches_171 (lv_at hl 0 rfl) ?_
                        refine lv_aload_n hx hb dX8_reaches_173 rfl (lv_at hl 2 rfl) ?_
                        refine va_get (D := D) (ci := 8) (v := .ref mS) (C := RX8) (T := TX8) (N := 31) hx hb hts iX8_reaches_X8 hown hK hP 0 rfl rfl 16 (by decide) (hts (.fieldLink RX8 20 "TapeCalculatorModel" "stands" "[I") (List.mem_of_getElem? (i := 6) rfl)) (fun _ h9 => h9) rfl dX8_reaches_174 ?_
                        refine lv_iload hx hb dX8_reaches_177 (lv_at hl 0 rfl) ?_
                        refine va_iald hx hb hK hP 3 0 rfl rfl (vp_in_iff.mpr (by decide)) dX8_reaches_179 ?_
                        refine lv_topi (fun x_92 ex_92 => ?_)
                        obtain rfl : u_r_63.2.2.2.2.2.2.2.2.1 = x_92 := ex_92.symm
                        refine va_iast hx hb hK hP hD hS 2 0 rfl rfl (vp_in_iff.mpr (by decide)) dX8_reaches_180 (fun H locs hP hD hS => ?_)
                        rw [k4i_2] at hP hD
                        have hP : va_P D vwCl [(m0, .inr (8, [.ref mH, .int aM, .long aC, .int mM, .long mQ, .int oV, .int pL, .int lI, .int sW, .int dP, .int sT, .long aT, .int cH, .int u_r_63.1, .ref mI, .ref mJ, .ref mS, .ref mD, .int iH, .int aE, .int mN, .long sZ, .ref mX, .int tS, .int tA, .int tW, .ref mA, .ref mB, .ref mW, .ref mL, .int lS])), (mI, .inl (cL, 1200, .inr (.inl u_r_63.2.1))), (mJ, .inl (cI, 4, .inl (k4i u_r_63.2.2.1 u_r_63.2.2.2.1 (u_r_63.2.2.2.2.2.2.2.2.1) u_r_63.2.2.2.2.2.1))), (mS, .inl (cI, 4, .inl (k4i u_r_63.2.2.2.2.2.2.1 u_r_63.2.2.2.2.2.2.2.1 u_r_63.2.2.2.2.2.2.2.2.1 u_r_63.2.2.2.2.2.2.2.2.2)))] H := hP
                        have hD : va_D A [(m0, .inr (8, [.ref mH, .int aM, .long aC, .int mM, .long mQ, .int oV, .int pL, .int lI, .int sW, .int dP, .int sT, .long aT, .int cH, .int u_r_63.1, .ref mI, .ref mJ, .ref mS, .ref mD, .int iH, .int aE, .int mN, .long sZ, .ref mX, .int tS, .int tA, .int tW, .ref mA, .ref mB, .ref mW, .ref mL, .int lS])), (mI, .inl (cL, 1200, .inr (.inl u_r_63.2.1))), (mJ, .inl (cI, 4, .inl (k4i u_r_63.2.2.1 u_r_63.2.2.2.1 (u_r_63.2.2.2.2.2.2.2.2.1) u_r_63.2.2.2.2.2.1))), (mS, .inl (cI, 4, .inl (k4i u_r_63.2.2.2.2.2.2.1 u_r_63.2.2.2.2.2.2.2.1 u_r_63.2.2.2.2.2.2.2.2.1 u_r_63.2.2.2.2.2.2.2.2.2)))] := hD
                        refine lv_aload_n hx hb dX8_reaches_181 rfl (lv_at hl 2 rfl) ?_
                        refine lv_iload_n hx hb dX8_reaches_182 rfl (lv_at hl 1 rfl) ?_
                        refine lv_if_eq (tgt := 191) hx hb dX8_reaches_183 (by decide) (fun c_183_92 => ?_) (fun c_183_92 => ?_)
                        · have t_183_92 := c_183_92
                          try simp only [kb_eq0, kb_ne0, lg_cmp_lt, lg_cmp_le, lg_cmp_gt, lg_cmp_ge, lg_cmp_eq] at t_183_92
                          try simp only [Int32.lt_iff_toInt_lt, Int32.le_iff_toInt_le, ← Int32.toInt_inj, Int64.lt_iff_toInt_lt, Int64.le_iff_toInt_le, ← Int64.toInt_inj, Int32.toInt_toInt64, Int32.reduceToInt, Int64.reduceToInt] at t_183_92
                          refine lv_bipush (v := 9) hx hb dX8_reaches_191 (by decide) ?_
                          refine lv_iload hx hb dX8_reaches_193 (lv_at hl 0 rfl) ?_
                          refine lv_iadd hx hb dX8_reaches_195 ?_
                          refine lv_topi (fun x_94 ex_94 => ?_)
                          obtain rfl : x_94 = 11 := ex_94.trans (by decide)
                          refine va_put (D := D) (ci := 8) (v := .int 11) (ty := .int) (C := RX8) (T := TX8) (N := 31) hx hb hts iX8_reaches_X8 tyX8 tyX8_ok nmX8 hown hK hP hD hS 0 rfl rfl 12 (by decide) (hts (.fieldLink RX8 43 "TapeCalculatorModel" "chosen" "I") (List.mem_of_getElem? (i := 1) rfl)) (fun _ h9 => h9) rfl (by decide +kernel) rfl rfl (Nat.le_of_ble_eq_true rfl) dX8_reaches_196 (fun H locs hP hD hS => ?_)
                          have hP : va_P D vwCl [(m0, .inr (8, [.ref mH, .int aM, .long aC, .int mM, .long mQ, .int oV, .int pL, .int lI, .int sW, .int dP, .int sT, .long aT, .int 11, .int u_r_63.1, .ref mI, .ref mJ, .ref mS, .ref mD, .int iH, .int aE, .int mN, .long sZ, .ref mX, .int tS, .int tA, .int tW, .ref mA, .ref mB, .ref mW, .ref mL, .int lS])), (mI, .inl (cL, 1200, .inr (.inl u_r_63.2.1))), (mJ, .inl (cI, 4, .inl (k4i u_r_63.2.2.1 u_r_63.2.2.2.1 (u_r_63.2.2.2.2.2.2.2.2.1) u_r_63.2.2.2.2.2.1))), (mS, .inl (cI, 4, .inl (k4i u_r_63.2.2.2.2.2.2.1 u_r_63.2.2.2.2.2.2.2.1 u_r_63.2.2.2.2.2.2.2.2.1 u_r_63.2.2.2.2.2.2.2.2.2)))] H := hP
                          have hD : va_D A [(m0, .inr (8, [.ref mH, .int aM, .long aC, .int mM, .long mQ, .int oV, .int pL, .int lI, .int sW, .int dP, .int sT, .long aT, .int 11, .int u_r_63.1, .ref mI, .ref mJ, .ref mS, .ref mD, .int iH, .int aE, .int mN, .long sZ, .ref mX, .int tS, .int tA, .int tW, .ref mA, .ref mB, .ref mW, .ref mL, .int lS])), (mI, .inl (cL, 1200, .inr (.inl u_r_63.2.1))), (mJ, .inl (cI, 4, .inl (k4i u_r_63.2.2.1 u_r_63.2.2.2.1 (u_r_63.2.2.2.2.2.2.2.2.1) u_r_63.2.2.2.2.2.1))), (mS, .inl (cI, 4, .inl (k4i u_r_63.2.2.2.2.2.2.1 u_r_63.2.2.2.2.2.2.2.1 u_r_63.2.2.2.2.2.2.2.2.1 u_r_63.2.2.2.2.2.2.2.2.2)))] := hD
                          refine lv_goto (tgt := 251) hx hb dX8_reaches_199 (by decide) ?_
                          refine lv_iconst (v := 0) hx hb dX8_reaches_251 (by decide) ?_
                          refine kIret (u := (pL, lI, dP, 11, u_r_63.1, u_r_63.2.1, u_r_63.2.2.1, u_r_63.2.2.2.1, (u_r_63.2.2.2.2.2.2.2.2.1), u_r_63.2.2.2.2.2.1, u_r_63.2.2.2.2.2.2.1, u_r_63.2.2.2.2.2.2.2.1, u_r_63.2.2.2.2.2.2.2.2.1, u_r_63.2.2.2.2.2.2.2.2.2)) hx hb hr rfl hlocks hS dX8_reaches_252 ?_ (hP.sub [0, 1, 2, 3] rfl) (hD.sub [0, 1, 2, 3] (by decide) rfl)
                          try dsimp only
                          try simp only [Int32.reduceToInt, Int64.reduceToInt, true_or, or_true, true_and, and_true]
                          repeat' apply And.intro
                          all_goals first | assumption | omega
                        · exact absurd (by decide) c_183_92
                    · refine lv_tableIn (tgt := 202) (off := 100) hx hb dX8_reaches_102 (by decide) (by decide) (by decide) (by decide) ?_
                      refine lv_aload_n hx hb dX8_reaches_202 rfl (lv_at hl 2 rfl) ?_
                      refine va_get (D := D) (ci := 8) (v := .ref mJ) (C := RX8) (T := TX8) (N := 31) hx hb hts iX8_reaches_X8 hown hK hP 0 rfl rfl 15 (by decide) (hts (.fieldLink RX8 17 "TapeCalculatorModel" "items" "[I") (List.mem_of_getElem? (i := 5) rfl)) (fun _ h9 => h9) rfl dX8_reaches_203 ?_
                      refine lv_iload hx hb dX8_reaches_206 (lv_at hl 0 rfl) ?_
                      refine lv_aload_n hx hb dX8_reaches_208 rfl (lv_at hl 2 rfl) ?_
                      refine va_get (D := D) (ci := 8) (v := .ref mS) (C := RX8) (T := TX8) (N := 31) hx hb hts iX8_reaches_X8 hown hK hP 0 rfl rfl 16 (by decide) (hts (.fieldLink RX8 20 "TapeCalculatorModel" "stands" "[I") (List.mem_of_getElem? (i := 6) rfl)) (fun _ h9 => h9) rfl dX8_reaches_209 ?_
                      refine lv_iload hx hb dX8_reaches_212 (lv_at hl 0 rfl) ?_
                      refine va_iald hx hb hK hP 3 0 rfl rfl (vp_in_iff.mpr (by decide)) dX8_reaches_214 ?_
                      refine lv_topi (fun x_95 ex_95 => ?_)
                      obtain rfl : u_r_63.2.2.2.2.2.2.2.2.1 = x_95 := ex_95.symm
                      refine va_iast hx hb hK hP hD hS 2 0 rfl rfl (vp_in_iff.mpr (by decide)) dX8_reaches_215 (fun H locs hP hD hS => ?_)
                      rw [k4i_2] at hP hD
                      have hP : va_P D vwCl [(m0, .inr (8, [.ref mH, .int aM, .long aC, .int mM, .long mQ, .int oV, .int pL, .int lI, .int sW, .int dP, .int sT, .long aT, .int cH, .int u_r_63.1, .ref mI, .ref mJ, .ref mS, .ref mD, .int iH, .int aE, .int mN, .long sZ, .ref mX, .int tS, .int tA, .int tW, .ref mA, .ref mB, .ref mW, .ref mL, .int lS])), (mI, .inl (cL, 1200, .inr (.inl u_r_63.2.1))), (mJ, .inl (cI, 4, .inl (k4i u_r_63.2.2.1 u_r_63.2.2.2.1 (u_r_63.2.2.2.2.2.2.2.2.1) u_r_63.2.2.2.2.2.1))), (mS, .inl (cI, 4, .inl (k4i u_r_63.2.2.2.2.2.2.1 u_r_63.2.2.2.2.2.2.2.1 u_r_63.2.2.2.2.2.2.2.2.1 u_r_63.2.2.2.2.2.2.2.2.2)))] H := hP
                      have hD : va_D A [(m0, .inr (8, [.ref mH, .int aM, .long aC, .int mM, .long mQ, .int oV, .int pL, .int lI, .int sW, .int dP, .int sT, .long aT, .int cH, .int u_r_63.1, .ref mI, .ref mJ, .ref mS, .ref mD, .int iH, .int aE, .int mN, .long sZ, .ref mX, .int tS, .int tA, .int tW, .ref mA, .ref mB, .ref mW, .ref mL, .int lS])), (mI, .inl (cL, 1200, .inr (.inl u_r_63.2.1))), (mJ, .inl (cI, 4, .inl (k4i u_r_63.2.2.1 u_r_63.2.2.2.1 (u_r_63.2.2.2.2.2.2.2.2.1) u_r_63.2.2.2.2.2.1))), (mS, .inl (cI, 4, .inl (k4i u_r_63.2.2.2.2.2.2.1 u_r_63.2.2.2.2.2.2.2.1 u_r_63.2.2.2.2.2.2.2.2.1 u_r_63.2.2.2.2.2.2.2.2.2)))] := hD
                      refine lv_aload_n hx hb dX8_reaches_216 rfl (lv_at hl 2 rfl) ?_
                      refine lv_iload hx hb dX8_reaches_217 (lv_at hl 0 rfl) ?_
                      refine lv_ldc2 (v := (-3)) hx hb hown (hts (.constantLong RX8 113 (-3)) (List.mem_of_getElem? (i := 7) rfl)) dX8_reaches_219 ?_
                      refine kCallI (wr := []) (va_runV (As := [.int 2, .long (-3)]) (rest := []) ⟨hx, hb, hml, hown, hts⟩ (q_puts l D cI cL cB cZ cT _ m0 mH mI mJ mS mD mX mA mB mW mL aM aC mM mQ oV pL lI sW dP sT aT cH (u_r_63.1) iH aE mN sZ tS tA tW lS (u_r_63.2.1) (u_r_63.2.2.1) (u_r_63.2.2.2.1) (u_r_63.2.2.2.2.2.2.2.2.1) (u_r_63.2.2.2.2.2.1) (u_r_63.2.2.2.2.2.2.1) (u_r_63.2.2.2.2.2.2.2.1) (u_r_63.2.2.2.2.2.2.2.2.1) (u_r_63.2.2.2.2.2.2.2.2.2) 2 (-3) (by omega) (by decide)) (cwV 2 hts gX8_reaches_X8_puts rfl rfl rfl (by decide +kernel) ⟨Nat.le_of_ble_eq_true rfl, Nat.le_of_ble_eq_true rfl⟩) (kPreV hG hP hD [0, 1, 2, 3] rfl (by decide) 0 8 rfl rfl rfl) rfl rfl hl.1 rfl (lv_room (Nat.le_of_ble_eq_true rfl)) dX8_reaches_222 ⟨Nat.le_of_ble_eq_true rfl, Nat.le_of_ble_eq_true rfl⟩) hA hP hD hS [0, 1, 2, 3] [] rfl rfl (by decide) (by decide) (fun r_96 u_r_96 H locs wr_96 hP hD hS => ?_)
                      have hP : va_P D vwCl [(m0, .inr (8, [.ref mH, .int aM, .long aC, .int mM, .long mQ, .int oV, .int pL, .int lI, .int sW, .int dP, .int sT, .long aT, .int cH, .int u_r_63.1, .ref mI, .ref mJ, .ref mS, .ref mD, .int iH, .int aE, .int mN, .long sZ, .ref mX, .int tS, .int tA, .int tW, .ref mA, .ref mB, .ref mW, .ref mL, .int lS])), (mI, .inl (cL, 1200, .inr (.inl u_r_96.1))), (mJ, .inl (cI, 4, .inl (k4i u_r_96.2.1 u_r_96.2.2.1 u_r_96.2.2.2.1 u_r_96.2.2.2.2.1))), (mS, .inl (cI, 4, .inl (k4i u_r_96.2.2.2.2.2.1 u_r_96.2.2.2.2.2.2.1 u_r_96.2.2.2.2.2.2.2.1 u_r_96.2.2.2.2.2.2.2.2)))] H := hP
                      have hD : va_D A [(m0, .inr (8, [.ref mH, .int aM, .long aC, .int mM, .long mQ, .int oV, .int pL, .int lI, .int sW, .int dP, .int sT, .long aT, .int cH, .int u_r_63.1, .ref mI, .ref mJ, .ref mS, .ref mD, .int iH, .int aE, .int mN, .long sZ, .ref mX, .int tS, .int tA, .int tW, .ref mA, .ref mB, .ref mW, .ref mL, .int lS])), (mI, .inl (cL, 1200, .inr (.inl u_r_96.1))), (mJ, .inl (cI, 4, .inl (k4i u_r_96.2.1 u_r_96.2.2.1 u_r_96.2.2.2.1 u_r_96.2.2.2.2.1))), (mS, .inl (cI, 4, .inl (k4i u_r_96.2.2.2.2.2.1 u_r_96.2.2.2.2.2.2.1 u_r_96.2.2.2.2.2.2.2.1 u_r_96.2.2.2.2.2.2.2.2)))] := hD
                      try dsimp only at wr_96
                      try simp only [Int32.reduceToInt, Int64.reduceToInt] at wr_96
                      refine lv_if_ne (tgt := 230) hx hb dX8_reaches_225 (by decide) (fun c_225_96 => ?_) (fun c_225_96 => ?_)
                      · have t_225_96 := c_225_96
                        try simp only [kb_eq0, kb_ne0, lg_cmp_lt, lg_cmp_le, lg_cmp_gt, lg_cmp_ge, lg_cmp_eq] at t_225_96
                        try simp only [Int32.lt_iff_toInt_lt, Int32.le_iff_toInt_le, ← Int32.toInt_inj, Int64.lt_iff_toInt_lt, Int64.le_iff_toInt_le, ← Int64.toInt_inj, Int32.toInt_toInt64, Int32.reduceToInt, Int64.reduceToInt] at t_225_96
                        refine lv_aload_n hx hb dX8_reaches_230 rfl (lv_at hl 2 rfl) ?_
                        refine lv_iconst (v := 0) hx hb dX8_reaches_231 (by decide) ?_
                        refine va_put (D := D) (ci := 8) (v := .int 0) (ty := .int) (C := RX8) (T := TX8) (N := 31) hx hb hts iX8_reaches_X8 tyX8 tyX8_ok nmX8 hown hK hP hD hS 0 rfl rfl 12 (by decide) (hts (.fieldLink RX8 43 "TapeCalculatorModel" "chosen" "I") (List.mem_of_getElem? (i := 1) rfl)) (fun _ h9 => h9) rfl (by decide +kernel) rfl rfl (Nat.le_of_ble_eq_true rfl) dX8_reaches_232 (fun H locs hP hD hS => ?_)
                        have hP : va_P D vwCl [(m0, .inr (8, [.ref mH, .int aM, .long aC, .int mM, .long mQ, .int oV, .int pL, .int lI, .int sW, .int dP, .int sT, .long aT, .int 0, .int u_r_63.1, .ref mI, .ref mJ, .ref mS, .ref mD, .int iH, .int aE, .int mN, .long sZ, .ref mX, .int tS, .int tA, .int tW, .ref mA, .ref mB, .ref mW, .ref mL, .int lS])), (mI, .inl (cL, 1200, .inr (.inl u_r_96.1))), (mJ, .inl (cI, 4, .inl (k4i u_r_96.2.1 u_r_96.2.2.1 u_r_96.2.2.2.1 u_r_96.2.2.2.2.1))), (mS, .inl (cI, 4, .inl (k4i u_r_96.2.2.2.2.2.1 u_r_96.2.2.2.2.2.2.1 u_r_96.2.2.2.2.2.2.2.1 u_r_96.2.2.2.2.2.2.2.2)))] H := hP
                        have hD : va_D A [(m0, .inr (8, [.ref mH, .int aM, .long aC, .int mM, .long mQ, .int oV, .int pL, .int lI, .int sW, .int dP, .int sT, .long aT, .int 0, .int u_r_63.1, .ref mI, .ref mJ, .ref mS, .ref mD, .int iH, .int aE, .int mN, .long sZ, .ref mX, .int tS, .int tA, .int tW, .ref mA, .ref mB, .ref mW, .ref mL, .int lS])), (mI, .inl (cL, 1200, .inr (.inl u_r_96.1))), (mJ, .inl (cI, 4, .inl (k4i u_r_96.2.1 u_r_96.2.2.1 u_r_96.2.2.2.1 u_r_96.2.2.2.2.1))), (mS, .inl (cI, 4, .inl (k4i u_r_96.2.2.2.2.2.1 u_r_96.2.2.2.2.2.2.1 u_r_96.2.2.2.2.2.2.2.1 u_r_96.2.2.2.2.2.2.2.2)))] := hD
                        refine lv_goto (tgt := 251) hx hb dX8_reaches_235 (by decide) ?_
                        refine lv_iconst (v := 0) hx hb dX8_reaches_251 (by decide) ?_
                        refine kIret (u := (pL, lI, dP, 0, u_r_63.1, u_r_96.1, u_r_96.2.1, u_r_96.2.2.1, u_r_96.2.2.2.1, u_r_96.2.2.2.2.1, u_r_96.2.2.2.2.2.1, u_r_96.2.2.2.2.2.2.1, u_r_96.2.2.2.2.2.2.2.1, u_r_96.2.2.2.2.2.2.2.2)) hx hb hr rfl hlocks hS dX8_reaches_252 ?_ (hP.sub [0, 1, 2, 3] rfl) (hD.sub [0, 1, 2, 3] (by decide) rfl)
                        try dsimp only
                        try simp only [Int32.reduceToInt, Int64.reduceToInt, true_or, or_true, true_and, and_true]
                        repeat' apply And.intro
                        all_goals first | assumption | omega
                      · have t_225_96 := c_225_96
                        try simp only [kb_eq0, kb_ne0, lg_cmp_lt, lg_cmp_le, lg_cmp_gt, lg_cmp_ge, lg_cmp_eq] at t_225_96
                        try simp only [Int32.lt_iff_toInt_lt, Int32.le_iff_toInt_le, ← Int32.toInt_inj, Int64.lt_iff_toInt_lt, Int64.le_iff_toInt_le, ← Int64.toInt_inj, Int32.toInt_toInt64, Int32.reduceToInt, Int64.reduceToInt] at t_225_96
                        refine lv_iconst (v := 5) hx hb dX8_reaches_228 (by decide) ?_
                        refine kIret (u := (pL, lI, dP, cH, u_r_63.1, u_r_96.1, u_r_96.2.1, u_r_96.2.2.1, u_r_96.2.2.2.1, u_r_96.2.2.2.2.1, u_r_96.2.2.2.2.2.1, u_r_96.2.2.2.2.2.2.1, u_r_96.2.2.2.2.2.2.2.1, u_r_96.2.2.2.2.2.2.2.2)) hx hb hr rfl hlocks hS dX8_reaches_229 ?_ (hP.sub [0, 1, 2, 3] rfl) (hD.sub [0, 1, 2, 3] (by decide) rfl)
                        try dsimp only
                        try simp only [Int32.reduceToInt, Int64.reduceToInt, true_or, or_true, true_and, and_true]
                        repeat' apply And.intro
                        all_goals first | assumption | omega
                  · refine lv_iload_n hx hb dX8_reaches_94 rfl (lv_at hl 3 rfl) ?_
                    refine lv_sipush (v := 256) hx hb dX8_reaches_95 (by decide) ?_
                    refine lv_isub hx hb dX8_reaches_98 ?_
                    refine lv_topi (fun x_98 ex_98 => ?_)
                    obtain rfl : x_98 = 3 := ex_98.trans (by decide)
                    refine lv_istore (lv' := [(4, .int 3), (3, .int 0), (0, .ref m0), (1, .int a), (2, .int 259)]) hx hb dX8_reaches_99 hl (by decide) rfl (fun ls hl => ?_)
                    refine lv_iload_n hx hb dX8_reaches_101 rfl (lv_at hl 3 rfl) ?_
                    rcases ksw_24_27 a with hsw | rfl | rfl | rfl | rfl
                    · refine lv_tableOut (tgt := 238) hx hb dX8_reaches_102 hsw (by decide) ?_
                      refine lv_aload_n hx hb dX8_reaches_238 rfl (lv_at hl 2 rfl) ?_
                      refine va_get (D := D) (ci := 8) (v := .ref mS) (C := RX8) (T := TX8) (N := 31) hx hb hts iX8_reaches_X8 hown hK hP 0 rfl rfl 16 (by decide) (hts (.fieldLink RX8 20 "TapeCalculatorModel" "stands" "[I") (List.mem_of_getElem? (i := 6) rfl)) (fun _ h9 => h9) rfl dX8_reaches_239 ?_
                      refine lv_iload hx hb dX8_reaches_242 (lv_at hl 0 rfl) ?_
                      refine lv_iconst (v := 0) hx hb dX8_reaches_244 (by decide) ?_
                      refine va_iast hx hb hK hP hD hS 3 0 rfl rfl (vp_in_iff.mpr (by decide)) dX8_reaches_245 (fun H locs hP hD hS => ?_)
                      rw [k4i_3] at hP hD
                      have hP : va_P D vwCl [(m0, .inr (8, [.ref mH, .int aM, .long aC, .int mM, .long mQ, .int oV, .int pL, .int lI, .int sW, .int dP, .int sT, .long aT, .int cH, .int u_r_63.1, .ref mI, .ref mJ, .ref mS, .ref mD, .int iH, .int aE, .int mN, .long sZ, .ref mX, .int tS, .int tA, .int tW, .ref mA, .ref mB, .ref mW, .ref mL, .int lS])), (mI, .inl (cL, 1200, .inr (.inl u_r_63.2.1))), (mJ, .inl (cI, 4, .inl (k4i u_r_63.2.2.1 u_r_63.2.2.2.1 u_r_63.2.2.2.2.1 u_r_63.2.2.2.2.2.1))), (mS, .inl (cI, 4, .inl (k4i u_r_63.2.2.2.2.2.2.1 u_r_63.2.2.2.2.2.2.2.1 u_r_63.2.2.2.2.2.2.2.2.1 0)))] H := hP
                      have hD : va_D A [(m0, .inr (8, [.ref mH, .int aM, .long aC, .int mM, .long mQ, .int oV, .int pL, .int lI, .int sW, .int dP, .int sT, .long aT, .int cH, .int u_r_63.1, .ref mI, .ref mJ, .ref mS, .ref mD, .int iH, .int aE, .int mN, .long sZ, .ref mX, .int tS, .int tA, .int tW, .ref mA, .ref mB, .ref mW, .ref mL, .int lS])), (mI, .inl (cL, 1200, .inr (.inl u_r_63.2.1))), (mJ, .inl (cI, 4, .inl (k4i u_r_63.2.2.1 u_r_63.2.2.2.1 u_r_63.2.2.2.2.1 u_r_63.2.2.2.2.2.1))), (mS, .inl (cI, 4, .inl (k4i u_r_63.2.2.2.2.2.2.1 u_r_63.2.2.2.2.2.2.2.1 u_r_63.2.2.2.2.2.2.2.2.1 0)))] := hD
                      refine lv_aload_n hx hb dX8_reaches_246 rfl (lv_at hl 2 rfl) ?_
                      refine lv_iconst (v := 0) hx hb dX8_reaches_247 (by decide) ?_
                      refine va_put (D := D) (ci := 8) (v := .int 0) (ty := .int) (C := RX8) (T := TX8) (N := 31) hx hb hts iX8_reaches_X8 tyX8 tyX8_ok nmX8 hown hK hP hD hS 0 rfl rfl 12 (by decide) (hts (.fieldLink RX8 43 "TapeCalculatorModel" "chosen" "I") (List.mem_of_getElem? (i := 1) rfl)) (fun _ h9 => h9) rfl (by decide +kernel) rfl rfl (Nat.le_of_ble_eq_true rfl) dX8_reaches_248 (fun H locs hP hD hS => ?_)
                      have hP : va_P D vwCl [(m0, .inr (8, [.ref mH, .int aM, .long aC, .int mM, .long mQ, .int oV, .int pL, .int lI, .int sW, .int dP, .int sT, .long aT, .int 0, .int u_r_63.1, .ref mI, .ref mJ, .ref mS, .ref mD, .int iH, .int aE, .int mN, .long sZ, .ref mX, .int tS, .int tA, .int tW, .ref mA, .ref mB, .ref mW, .ref mL, .int lS])), (mI, .inl (cL, 1200, .inr (.inl u_r_63.2.1))), (mJ, .inl (cI, 4, .inl (k4i u_r_63.2.2.1 u_r_63.2.2.2.1 u_r_63.2.2.2.2.1 u_r_63.2.2.2.2.2.1))), (mS, .inl (cI, 4, .inl (k4i u_r_63.2.2.2.2.2.2.1 u_r_63.2.2.2.2.2.2.2.1 u_r_63.2.2.2.2.2.2.2.2.1 0)))] H := hP
                      have hD : va_D A [(m0, .inr (8, [.ref mH, .int aM, .long aC, .int mM, .long mQ, .int oV, .int pL, .int lI, .int sW, .int dP, .int sT, .long aT, .int 0, .int u_r_63.1, .ref mI, .ref mJ, .ref mS, .ref mD, .int iH, .int aE, .int mN, .long sZ, .ref mX, .int tS, .int tA, .int tW, .ref mA, .ref mB, .ref mW, .ref mL, .int lS])), (mI, .inl (cL, 1200, .inr (.inl u_r_63.2.1))), (mJ, .inl (cI, 4, .inl (k4i u_r_63.2.2.1 u_r_63.2.2.2.1 u_r_63.2.2.2.2.1 u_r_63.2.2.2.2.2.1))), (mS, .inl (cI, 4, .inl (k4i u_r_63.2.2.2.2.2.2.1 u_r_63.2.2.2.2.2.2.2.1 u_r_63.2.2.2.2.2.2.2.2.1 0)))] := hD
                      refine lv_iconst (v := 0) hx hb dX8_reaches_251 (by decide) ?_
                      refine kIret (u := (pL, lI, dP, 0, u_r_63.1, u_r_63.2.1, u_r_63.2.2.1, u_r_63.2.2.2.1, u_r_63.2.2.2.2.1, u_r_63.2.2.2.2.2.1, u_r_63.2.2.2.2.2.2.1, u_r_63.2.2.2.2.2.2.2.1, u_r_63.2.2.2.2.2.2.2.2.1, 0)) hx hb hr rfl hlocks hS dX8_reaches_252 ?_ (hP.sub [0, 1, 2, 3] rfl) (hD.sub [0, 1, 2, 3] (by decide) rfl)
                      try dsimp only
                      try simp only [Int32.reduceToInt, Int64.reduceToInt, true_or, or_true, true_and, and_true]
                      repeat' apply And.intro
                      all_goals first | assumption | omega
                    · refine lv_tableIn (tgt := 132) (off := 30) hx hb dX8_reaches_102 (by decide) (by decide) (by decide) (by decide) ?_
                      refine lv_aload_n hx hb dX8_reaches_132 rfl (lv_at hl 2 rfl) ?_
                      refine lv_iload_n hx hb dX8_reaches_133 rfl (lv_at hl 1 rfl) ?_
                      refine lv_if_eq (tgt := 142) hx hb dX8_reaches_134 (by decide) (fun c_134_98 => ?_) (fun c_134_98 => ?_)
                      · have t_134_98 := c_134_98
                        try simp only [kb_eq0, kb_ne0, lg_cmp_lt, lg_cmp_le, lg_cmp_gt, lg_cmp_ge, lg_cmp_eq] at t_134_98
                        try simp only [Int32.lt_iff_toInt_lt, Int32.le_iff_toInt_le, ← Int32.toInt_inj, Int64.lt_iff_toInt_lt, Int64.le_iff_toInt_le, ← Int64.toInt_inj, Int32.toInt_toInt64, Int32.reduceToInt, Int64.reduceToInt] at t_134_98
                        refine lv_iconst (v := 1) hx hb dX8_reaches_142 (by decide) ?_
                        refine lv_iload hx hb dX8_reaches_143 (lv_at hl 0 rfl) ?_
                        refine lv_iadd hx hb dX8_reaches_145 ?_
                        refine lv_topi (fun x_100 ex_100 => ?_)
                        obtain rfl : x_100 = 4 := ex_100.trans (by decide)
                        refine va_put (D := D) (ci := 8) (v := .int 4) (ty := .int) (C := RX8) (T := TX8) (N := 31) hx hb hts iX8_reaches_X8 tyX8 tyX8_ok nmX8 hown hK hP hD hS 0 rfl rfl 12 (by decide) (hts (.fieldLink RX8 43 "TapeCalculatorModel" "chosen" "I") (List.mem_of_getElem? (i := 1) rfl)) (fun _ h9 => h9) rfl (by decide +kernel) rfl rfl (Nat.le_of_ble_eq_true rfl) dX8_reaches_146 (fun H locs hP hD hS => ?_)
                        have hP : va_P D vwCl [(m0, .inr (8, [.ref mH, .int aM, .long aC, .int mM, .long mQ, .int oV, .int pL, .int lI, .int sW, .int dP, .int sT, .long aT, .int 4, .int u_r_63.1, .ref mI, .ref mJ, .ref mS, .ref mD, .int iH, .int aE, .int mN, .long sZ, .ref mX, .int tS, .int tA, .int tW, .ref mA, .ref mB, .ref mW, .ref mL, .int lS])), (mI, .inl (cL, 1200, .inr (.inl u_r_63.2.1))), (mJ, .inl (cI, 4, .inl (k4i u_r_63.2.2.1 u_r_63.2.2.2.1 u_r_63.2.2.2.2.1 u_r_63.2.2.2.2.2.1))), (mS, .inl (cI, 4, .inl (k4i u_r_63.2.2.2.2.2.2.1 u_r_63.2.2.2.2.2.2.2.1 u_r_63.2.2.2.2.2.2.2.2.1 u_r_63.2.2.2.2.2.2.2.2.2)))] H := hP
                        have hD : va_D A [(m0, .inr (8, [.ref mH, .int aM, .long aC, .int mM, .long mQ, .int oV, .int pL, .int lI, .int sW, .int dP, .int sT, .long aT, .int 4, .int u_r_63.1, .ref mI, .ref mJ, .ref mS, .ref mD, .int iH, .int aE, .int mN, .long sZ, .ref mX, .int tS, .int tA, .int tW, .ref mA, .ref mB, .ref mW, .ref mL, .int lS])), (mI, .inl (cL, 1200, .inr (.inl u_r_63.2.1))), (mJ, .inl (cI, 4, .inl (k4i u_r_63.2.2.1 u_r_63.2.2.2.1 u_r_63.2.2.2.2.1 u_r_63.2.2.2.2.2.1))), (mS, .inl (cI, 4, .inl (k4i u_r_63.2.2.2.2.2.2.1 u_r_63.2.2.2.2.2.2.2.1 u_r_63.2.2.2.2.2.2.2.2.1 u_r_63.2.2.2.2.2.2.2.2.2)))] := hD
                        refine lv_goto (tgt := 251) hx hb dX8_reaches_149 (by decide) ?_
                        refine lv_iconst (v := 0) hx hb dX8_reaches_251 (by decide) ?_
                        refine kIret (u := (pL, lI, dP, 4, u_r_63.1, u_r_63.2.1, u_r_63.2.2.1, u_r_63.2.2.2.1, u_r_63.2.2.2.2.1, u_r_63.2.2.2.2.2.1, u_r_63.2.2.2.2.2.2.1, u_r_63.2.2.2.2.2.2.2.1, u_r_63.2.2.2.2.2.2.2.2.1, u_r_63.2.2.2.2.2.2.2.2.2)) hx hb hr rfl hlocks hS dX8_reaches_252 ?_ (hP.sub [0, 1, 2, 3] rfl) (hD.sub [0, 1, 2, 3] (by decide) rfl)
                        try dsimp only
                        try simp only [Int32.reduceToInt, Int64.reduceToInt, true_or, or_true, true_and, and_true]
                        repeat' apply And.intro
                        all_goals first | assumption | omega
                      · exact absurd (by decide) c_134_98
                    · refine lv_tableIn (tgt := 152) (off := 50) hx hb dX8_reaches_102 (by decide) (by decide) (by decide) (by decide) ?_
                      refine lv_aload_n hx hb dX8_reaches_152 rfl (lv_at hl 2 rfl) ?_
                      refine lv_iconst (v := 5) hx hb dX8_reaches_153 (by decide) ?_
                      refine lv_iload hx hb dX8_reaches_154 (lv_at hl 0 rfl) ?_
                      refine lv_iadd hx hb dX8_reaches_156 ?_
                      refine lv_topi (fun x_101 ex_101 => ?_)
                      obtain rfl : x_101 = 8 := ex_101.trans (by decide)
                      refine va_put (D := D) (ci := 8) (v := .int 8) (ty := .int) (C := RX8) (T := TX8) (N := 31) hx hb hts iX8_reaches_X8 tyX8 tyX8_ok nmX8 hown hK hP hD hS 0 rfl rfl 12 (by decide) (hts (.fieldLink RX8 43 "TapeCalculatorModel" "chosen" "I") (List.mem_of_getElem? (i := 1) rfl)) (fun _ h9 => h9) rfl (by decide +kernel) rfl rfl (Nat.le_of_ble_eq_true rfl) dX8_reaches_157 (fun H locs hP hD hS => ?_)
                      have hP : va_P D vwCl [(m0, .inr (8, [.ref mH, .int aM, .long aC, .int mM, .long mQ, .int oV, .int pL, .int lI, .int sW, .int dP, .int sT, .long aT, .int 8, .int u_r_63.1, .ref mI, .ref mJ, .ref mS, .ref mD, .int iH, .int aE, .int mN, .long sZ, .ref mX, .int tS, .int tA, .int tW, .ref mA, .ref mB, .ref mW, .ref mL, .int lS])), (mI, .inl (cL, 1200, .inr (.inl u_r_63.2.1))), (mJ, .inl (cI, 4, .inl (k4i u_r_63.2.2.1 u_r_63.2.2.2.1 u_r_63.2.2.2.2.1 u_r_63.2.2.2.2.2.1))), (mS, .inl (cI, 4, .inl (k4i u_r_63.2.2.2.2.2.2.1 u_r_63.2.2.2.2.2.2.2.1 u_r_63.2.2.2.2.2.2.2.2.1 u_r_63.2.2.2.2.2.2.2.2.2)))] H := hP
                      have hD : va_D A [(m0, .inr (8, [.ref mH, .int aM, .long aC, .int mM, .long mQ, .int oV, .int pL, .int lI, .int sW, .int dP, .int sT, .long aT, .int 8, .int u_r_63.1, .ref mI, .ref mJ, .ref mS, .ref mD, .int iH, .int aE, .int mN, .long sZ, .ref mX, .int tS, .int tA, .int tW, .ref mA, .ref mB, .ref mW, .ref mL, .int lS])), (mI, .inl (cL, 1200, .inr (.inl u_r_63.2.1))), (mJ, .inl (cI, 4, .inl (k4i u_r_63.2.2.1 u_r_63.2.2.2.1 u_r_63.2.2.2.2.1 u_r_63.2.2.2.2.2.1))), (mS, .inl (cI, 4, .inl (k4i u_r_63.2.2.2.2.2.2.1 u_r_63.2.2.2.2.2.2.2.1 u_r_63.2.2.2.2.2.2.2.2.1 u_r_63.2.2.2.2.2.2.2.2.2)))] := hD
                      refine lv_goto (tgt := 251) hx hb dX8_reaches_160 (by decide) ?_
                      refine lv_iconst (v := 0) hx hb dX8_reaches_251 (by decide) ?_
                      refine kIret (u := (pL, lI, dP, 8, u_r_63.1, u_r_63.2.1, u_r_63.2.2.1, u_r_63.2.2.2.1, u_r_63.2.2.2.2.1, u_r_63.2.2.2.2.2.1, u_r_63.2.2.2.2.2.2.1, u_r_63.2.2.2.2.2.2.2.1, u_r_63.2.2.2.2.2.2.2.2.1, u_r_63.2.2.2.2.2.2.2.2.2)) hx hb hr rfl hlocks hS dX8_reaches_252 ?_ (hP.sub [0, 1, 2, 3] rfl) (hD.sub [0, 1, 2, 3] (by decide) rfl)
                      try dsimp only
                      try simp only [Int32.reduceToInt, Int64.reduceToInt, true_or, or_true, true_and, and_true]
                      repeat' apply And.intro
                      all_goals first | assumption | omega
                    · refine lv_tableIn (tgt := 163) (off := 61) hx hb dX8_reaches_102 (by decide) (by decide) (by decide) (by decide) ?_
                      refine lv_iload_n hx hb dX8_reaches_163 rfl (lv_at hl 1 rfl) ?_
                      refine lv_if_ne (tgt := 181) hx hb dX8_reaches_164 (by decide) (fun c_164_101 => ?_) (fun c_164_101 => ?_)
                      · exact absurd (by decide) c_164_101
                      · have t_164_101 := c_164_101
                        try simp only [kb_eq0, kb_ne0, lg_cmp_lt, lg_cmp_le, lg_cmp_gt, lg_cmp_ge, lg_cmp_eq] at t_164_101
                        try simp only [Int32.lt_iff_toInt_lt, Int32.le_iff_toInt_le, ← Int32.toInt_inj, Int64.lt_iff_toInt_lt, Int64.le_iff_toInt_le, ← Int64.toInt_inj, Int32.toInt_toInt64, Int32.reduceToInt, Int64.reduceToInt] at t_164_101
                        refine lv_aload_n hx hb dX8_reaches_167 rfl (lv_at hl 2 rfl) ?_
                        refine va_get (D := D) (ci := 8) (v := .ref mJ) (C := RX8) (T := TX8) (N := 31) hx hb hts iX8_reaches_X8 hown hK hP 0 rfl rfl 15 (by decide) (hts (.fieldLink RX8 17 "TapeCalculatorModel" "items" "[I") (List.mem_of_getElem? (i := 5) rfl)) (fun _ h9 => h9) rfl dX8_reaches_168 ?_
                        refine lv_iload hx hb dX8_reaches_171 (lv_at hl 0 rfl) ?_
                        refine lv_aload_n hx hb dX8_reaches_173 rfl (lv_at hl 2 rfl) ?_
                        refine va_get (D := D) (ci := 8) (v := .ref mS) (C := RX8) (T := TX8) (N := 31) hx hb hts iX8_reaches_X8 hown hK hP 0 rfl rfl 16 (by decide) (hts (.fieldLink RX8 20 "TapeCalculatorModel" "stands" "[I") (List.mem_of_getElem? (i := 6) rfl)) (fun _ h9 => h9) rfl dX8_reaches_174 ?_
                        refine lv_iload hx hb dX8_reaches_177 (lv_at hl 0 rfl) ?_
                        refine va_iald hx hb hK hP 3 0 rfl rfl (vp_in_iff.mpr (by decide)) dX8_reaches_179 ?_
                        refine lv_topi (fun x_103 ex_103 => ?_)
                        obtain rfl : u_r_63.2.2.2.2.2.2.2.2.2 = x_103 := ex_103.symm
                        refine va_iast hx hb hK hP hD hS 2 0 rfl rfl (vp_in_iff.mpr (by decide)) dX8_reaches_180 (fun H locs hP hD hS => ?_)
                        rw [k4i_3] at hP hD
                        have hP : va_P D vwCl [(m0, .inr (8, [.ref mH, .int aM, .long aC, .int mM, .long mQ, .int oV, .int pL, .int lI, .int sW, .int dP, .int sT, .long aT, .int cH, .int u_r_63.1, .ref mI, .ref mJ, .ref mS, .ref mD, .int iH, .int aE, .int mN, .long sZ, .ref mX, .int tS, .int tA, .int tW, .ref mA, .ref mB, .ref mW, .ref mL, .int lS])), (mI, .inl (cL, 1200, .inr (.inl u_r_63.2.1))), (mJ, .inl (cI, 4, .inl (k4i u_r_63.2.2.1 u_r_63.2.2.2.1 u_r_63.2.2.2.2.1 (u_r_63.2.2.2.2.2.2.2.2.2)))), (mS, .inl (cI, 4, .inl (k4i u_r_63.2.2.2.2.2.2.1 u_r_63.2.2.2.2.2.2.2.1 u_r_63.2.2.2.2.2.2.2.2.1 u_r_63.2.2.2.2.2.2.2.2.2)))] H := hP
                        have hD : va_D A [(m0, .inr (8, [.ref mH, .int aM, .long aC, .int mM, .long mQ, .int oV, .int pL, .int lI, .int sW, .int dP, .int sT, .long aT, .int cH, .int u_r_63.1, .ref mI, .ref mJ, .ref mS, .ref mD, .int iH, .int aE, .int mN, .long sZ, .ref mX, .int tS, .int tA, .int tW, .ref mA, .ref mB, .ref mW, .ref mL, .int lS])), (mI, .inl (cL, 1200, .inr (.inl u_r_63.2.1))), (mJ, .inl (cI, 4, .inl (k4i u_r_63.2.2.1 u_r_63.2.2.2.1 u_r_63.2.2.2.2.1 (u_r_63.2.2.2.2.2.2.2.2.2)))), (mS, .inl (cI, 4, .inl (k4i u_r_63.2.2.2.2.2.2.1 u_r_63.2.2.2.2.2.2.2.1 u_r_63.2.2.2.2.2.2.2.2.1 u_r_63.2.2.2.2.2.2.2.2.2)))] := hD
                        refine lv_aload_n hx hb dX8_reaches_181 rfl (lv_at hl 2 rfl) ?_
                        refine lv_iload_n hx hb dX8_reaches_182 rfl (lv_at hl 1 rfl) ?_
                        refine lv_if_eq (tgt := 191) hx hb dX8_reaches_183 (by decide) (fun c_183_103 => ?_) (fun c_183_103 => ?_)
                        · have t_183_103 := c_183_103
                          try simp only [kb_eq0, kb_ne0, lg_cmp_lt, lg_cmp_le, lg_cmp_gt, lg_cmp_ge, lg_cmp_eq] at t_183_103
                          try simp only [Int32.lt_iff_toInt_lt, Int32.le_iff_toInt_le, ← Int32.toInt_inj, Int64.lt_iff_toInt_lt, Int64.le_iff_toInt_le, ← Int64.toInt_inj, Int32.toInt_toInt64, Int32.reduceToInt, Int64.reduceToInt] at t_183_103
                          refine lv_bipush (v := 9) hx hb dX8_reaches_191 (by decide) ?_
                          refine lv_iload hx hb dX8_reaches_193 (lv_at hl 0 rfl) ?_
                          refine lv_iadd hx hb dX8_reaches_195 ?_
                          refine lv_topi (fun x_105 ex_105 => ?_)
                          obtain rfl : x_105 = 12 := ex_105.trans (by decide)
                          refine va_put (D := D) (ci := 8) (v := .int 12) (ty := .int) (C := RX8) (T := TX8) (N := 31) hx hb hts iX8_reaches_X8 tyX8 tyX8_ok nmX8 hown hK hP hD hS 0 rfl rfl 12 (by decide) (hts (.fieldLink RX8 43 "TapeCalculatorModel" "chosen" "I") (List.mem_of_getElem? (i := 1) rfl)) (fun _ h9 => h9) rfl (by decide +kernel) rfl rfl (Nat.le_of_ble_eq_true rfl) dX8_reaches_196 (fun H locs hP hD hS => ?_)
                          have hP : va_P D vwCl [(m0, .inr (8, [.ref mH, .int aM, .long aC, .int mM, .long mQ, .int oV, .int pL, .int lI, .int sW, .int dP, .int sT, .long aT, .int 12, .int u_r_63.1, .ref mI, .ref mJ, .ref mS, .ref mD, .int iH, .int aE, .int mN, .long sZ, .ref mX, .int tS, .int tA, .int tW, .ref mA, .ref mB, .ref mW, .ref mL, .int lS])), (mI, .inl (cL, 1200, .inr (.inl u_r_63.2.1))), (mJ, .inl (cI, 4, .inl (k4i u_r_63.2.2.1 u_r_63.2.2.2.1 u_r_63.2.2.2.2.1 (u_r_63.2.2.2.2.2.2.2.2.2)))), (mS, .inl (cI, 4, .inl (k4i u_r_63.2.2.2.2.2.2.1 u_r_63.2.2.2.2.2.2.2.1 u_r_63.2.2.2.2.2.2.2.2.1 u_r_63.2.2.2.2.2.2.2.2.2)))] H := hP
                          have hD : va_D A [(m0, .inr (8, [.ref mH, .int aM, .long aC, .int mM, .long mQ, .int oV, .int pL, .int lI, .int sW, .int dP, .int sT, .long aT, .int 12, .int u_r_63.1, .ref mI, .ref mJ, .ref mS, .ref mD, .int iH, .int aE, .int mN, .long sZ, .ref mX, .int tS, .int tA, .int tW, .ref mA, .ref mB, .ref mW, .ref mL, .int lS])), (mI, .inl (cL, 1200, .inr (.inl u_r_63.2.1))), (mJ, .inl (cI, 4, .inl (k4i u_r_63.2.2.1 u_r_63.2.2.2.1 u_r_63.2.2.2.2.1 (u_r_63.2.2.2.2.2.2.2.2.2)))), (mS, .inl (cI, 4, .inl (k4i u_r_63.2.2.2.2.2.2.1 u_r_63.2.2.2.2.2.2.2.1 u_r_63.2.2.2.2.2.2.2.2.1 u_r_63.2.2.2.2.2.2.2.2.2)))] := hD
                          refine lv_goto (tgt := 251) hx hb dX8_reaches_199 (by decide) ?_
                          refine lv_iconst (v := 0) hx hb dX8_reaches_251 (by decide) ?_
                          refine kIret (u := (pL, lI, dP, 12, u_r_63.1, u_r_63.2.1, u_r_63.2.2.1, u_r_63.2.2.2.1, u_r_63.2.2.2.2.1, (u_r_63.2.2.2.2.2.2.2.2.2), u_r_63.2.2.2.2.2.2.1, u_r_63.2.2.2.2.2.2.2.1, u_r_63.2.2.2.2.2.2.2.2.1, u_r_63.2.2.2.2.2.2.2.2.2)) hx hb hr rfl hlocks hS dX8_reaches_252 ?_ (hP.sub [0, 1, 2, 3] rfl) (hD.sub [0, 1, 2, 3] (by decide) rfl)
                          try dsimp only
                          try simp only [Int32.reduceToInt, Int64.reduceToInt, true_or, or_true, true_and, and_true]
                          repeat' apply And.intro
                          all_goals first | assumption | omega
                        · exact absurd (by decide) c_183_103
                    · refine lv_tableIn (tgt := 202) (off := 100) hx hb dX8_reaches_102 (by decide) (by decide) (by decide) (by decide) ?_
                      refine lv_aload_n hx hb dX8_reaches_202 rfl (lv_at hl 2 rfl) ?_
                      refine va_get (D := D) (ci := 8) (v := .ref mJ) (C := RX8) (T := TX8) (N := 31) hx hb hts iX8_reaches_X8 hown hK hP 0 rfl rfl 15 (by decide) (hts (.fieldLink RX8 17 "TapeCalculatorModel" "items" "[I") (List.mem_of_getElem? (i := 5) rfl)) (fun _ h9 => h9) rfl dX8_reaches_203 ?_
                      refine lv_iload hx hb dX8_reaches_206 (lv_at hl 0 rfl) ?_
                      refine lv_aload_n hx hb dX8_reaches_208 rfl (lv_at hl 2 rfl) ?_
                      refine va_get (D := D) (ci := 8) (v := .ref mS) (C := RX8) (T := TX8) (N := 31) hx hb hts iX8_reaches_X8 hown hK hP 0 rfl rfl 16 (by decide) (hts (.fieldLink RX8 20 "TapeCalculatorModel" "stands" "[I") (List.mem_of_getElem? (i := 6) rfl)) (fun _ h9 => h9) rfl dX8_reaches_209 ?_
                      refine lv_iload hx hb dX8_reaches_212 (lv_at hl 0 rfl) ?_
                      refine va_iald hx hb hK hP 3 0 rfl rfl (vp_in_iff.mpr (by decide)) dX8_reaches_214 ?_
                      refine lv_topi (fun x_106 ex_106 => ?_)
                      obtain rfl : u_r_63.2.2.2.2.2.2.2.2.2 = x_106 := ex_106.symm
                      refine va_iast hx hb hK hP hD hS 2 0 rfl rfl (vp_in_iff.mpr (by decide)) dX8_reaches_215 (fun H locs hP hD hS => ?_)
                      rw [k4i_3] at hP hD
                      have hP : va_P D vwCl [(m0, .inr (8, [.ref mH, .int aM, .long aC, .int mM, .long mQ, .int oV, .int pL, .int lI, .int sW, .int dP, .int sT, .long aT, .int cH, .int u_r_63.1, .ref mI, .ref mJ, .ref mS, .ref mD, .int iH, .int aE, .int mN, .long sZ, .ref mX, .int tS, .int tA, .int tW, .ref mA, .ref mB, .ref mW, .ref mL, .int lS])), (mI, .inl (cL, 1200, .inr (.inl u_r_63.2.1))), (mJ, .inl (cI, 4, .inl (k4i u_r_63.2.2.1 u_r_63.2.2.2.1 u_r_63.2.2.2.2.1 (u_r_63.2.2.2.2.2.2.2.2.2)))), (mS, .inl (cI, 4, .inl (k4i u_r_63.2.2.2.2.2.2.1 u_r_63.2.2.2.2.2.2.2.1 u_r_63.2.2.2.2.2.2.2.2.1 u_r_63.2.2.2.2.2.2.2.2.2)))] H := hP
                      have hD : va_D A [(m0, .inr (8, [.ref mH, .int aM, .long aC, .int mM, .long mQ, .int oV, .int pL, .int lI, .int sW, .int dP, .int sT, .long aT, .int cH, .int u_r_63.1, .ref mI, .ref mJ, .ref mS, .ref mD, .int iH, .int aE, .int mN, .long sZ, .ref mX, .int tS, .int tA, .int tW, .ref mA, .ref mB, .ref mW, .ref mL, .int lS])), (mI, .inl (cL, 1200, .inr (.inl u_r_63.2.1))), (mJ, .inl (cI, 4, .inl (k4i u_r_63.2.2.1 u_r_63.2.2.2.1 u_r_63.2.2.2.2.1 (u_r_63.2.2.2.2.2.2.2.2.2)))), (mS, .inl (cI, 4, .inl (k4i u_r_63.2.2.2.2.2.2.1 u_r_63.2.2.2.2.2.2.2.1 u_r_63.2.2.2.2.2.2.2.2.1 u_r_63.2.2.2.2.2.2.2.2.2)))] := hD
                      refine lv_aload_n hx hb dX8_reaches_216 rfl (lv_at hl 2 rfl) ?_
                      refine lv_iload hx hb dX8_reaches_217 (lv_at hl 0 rfl) ?_
                      refine lv_ldc2 (v := (-3)) hx hb hown (hts (.constantLong RX8 113 (-3)) (List.mem_of_getElem? (i := 7) rfl)) dX8_reaches_219 ?_
                      refine kCallI (wr := []) (va_runV (As := [.int 3, .long (-3)]) (rest := []) ⟨hx, hb, hml, hown, hts⟩ (q_puts l D cI cL cB cZ cT _ m0 mH mI mJ mS mD mX mA mB mW mL aM aC mM mQ oV pL lI sW dP sT aT cH (u_r_63.1) iH aE mN sZ tS tA tW lS (u_r_63.2.1) (u_r_63.2.2.1) (u_r_63.2.2.2.1) (u_r_63.2.2.2.2.1) (u_r_63.2.2.2.2.2.2.2.2.2) (u_r_63.2.2.2.2.2.2.1) (u_r_63.2.2.2.2.2.2.2.1) (u_r_63.2.2.2.2.2.2.2.2.1) (u_r_63.2.2.2.2.2.2.2.2.2) 3 (-3) (by omega) (by decide)) (cwV 2 hts gX8_reaches_X8_puts rfl rfl rfl (by decide +kernel) ⟨Nat.le_of_ble_eq_true rfl, Nat.le_of_ble_eq_true rfl⟩) (kPreV hG hP hD [0, 1, 2, 3] rfl (by decide) 0 8 rfl rfl rfl) rfl rfl hl.1 rfl (lv_room (Nat.le_of_ble_eq_true rfl)) dX8_reaches_222 ⟨Nat.le_of_ble_eq_true rfl, Nat.le_of_ble_eq_true rfl⟩) hA hP hD hS [0, 1, 2, 3] [] rfl rfl (by decide) (by decide) (fun r_107 u_r_107 H locs wr_107 hP hD hS => ?_)
                      have hP : va_P D vwCl [(m0, .inr (8, [.ref mH, .int aM, .long aC, .int mM, .long mQ, .int oV, .int pL, .int lI, .int sW, .int dP, .int sT, .long aT, .int cH, .int u_r_63.1, .ref mI, .ref mJ, .ref mS, .ref mD, .int iH, .int aE, .int mN, .long sZ, .ref mX, .int tS, .int tA, .int tW, .ref mA, .ref mB, .ref mW, .ref mL, .int lS])), (mI, .inl (cL, 1200, .inr (.inl u_r_107.1))), (mJ, .inl (cI, 4, .inl (k4i u_r_107.2.1 u_r_107.2.2.1 u_r_107.2.2.2.1 u_r_107.2.2.2.2.1))), (mS, .inl (cI, 4, .inl (k4i u_r_107.2.2.2.2.2.1 u_r_107.2.2.2.2.2.2.1 u_r_107.2.2.2.2.2.2.2.1 u_r_107.2.2.2.2.2.2.2.2)))] H := hP
                      have hD : va_D A [(m0, .inr (8, [.ref mH, .int aM, .long aC, .int mM, .long mQ, .int oV, .int pL, .int lI, .int sW, .int dP, .int sT, .long aT, .int cH, .int u_r_63.1, .ref mI, .ref mJ, .ref mS, .ref mD, .int iH, .int aE, .int mN, .long sZ, .ref mX, .int tS, .int tA, .int tW, .ref mA, .ref mB, .ref mW, .ref mL, .int lS])), (mI, .inl (cL, 1200, .inr (.inl u_r_107.1))), (mJ, .inl (cI, 4, .inl (k4i u_r_107.2.1 u_r_107.2.2.1 u_r_107.2.2.2.1 u_r_107.2.2.2.2.1))), (mS, .inl (cI, 4, .inl (k4i u_r_107.2.2.2.2.2.1 u_r_107.2.2.2.2.2.2.1 u_r_107.2.2.2.2.2.2.2.1 u_r_107.2.2.2.2.2.2.2.2)))] := hD
                      try dsimp only at wr_107
                      try simp only [Int32.reduceToInt, Int64.reduceToInt] at wr_107
                      refine lv_if_ne (tgt := 230) hx hb dX8_reaches_225 (by decide) (fun c_225_107 => ?_) (fun c_225_107 => ?_)
                      · have t_225_107 := c_225_107
                        try simp only [kb_eq0, kb_ne0, lg_cmp_lt, lg_cmp_le, lg_cmp_gt, lg_cmp_ge, lg_cmp_eq] at t_225_107
                        try simp only [Int32.lt_iff_toInt_lt, Int32.le_iff_toInt_le, ← Int32.toInt_inj, Int64.lt_iff_toInt_lt, Int64.le_iff_toInt_le, ← Int64.toInt_inj, Int32.toInt_toInt64, Int32.reduceToInt, Int64.reduceToInt] at t_225_107
                        refine lv_aload_n hx hb dX8_reaches_230 rfl (lv_at hl 2 rfl) ?_
                        refine lv_iconst (v := 0) hx hb dX8_reaches_231 (by decide) ?_
                        refine va_put (D := D) (ci := 8) (v := .int 0) (ty := .int) (C := RX8) (T := TX8) (N := 31) hx hb hts iX8_reaches_X8 tyX8 tyX8_ok nmX8 hown hK hP hD hS 0 rfl rfl 12 (by decide) (hts (.fieldLink RX8 43 "TapeCalculatorModel" "chosen" "I") (List.mem_of_getElem? (i := 1) rfl)) (fun _ h9 => h9) rfl (by decide +kernel) rfl rfl (Nat.le_of_ble_eq_true rfl) dX8_reaches_232 (fun H locs hP hD hS => ?_)
                        have hP : va_P D vwCl [(m0, .inr (8, [.ref mH, .int aM, .long aC, .int mM, .long mQ, .int oV, .int pL, .int lI, .int sW, .int dP, .int sT, .long aT, .int 0, .int u_r_63.1, .ref mI, .ref mJ, .ref mS, .ref mD, .int iH, .int aE, .int mN, .long sZ, .ref mX, .int tS, .int tA, .int tW, .ref mA, .ref mB, .ref mW, .ref mL, .int lS])), (mI, .inl (cL, 1200, .inr (.inl u_r_107.1))), (mJ, .inl (cI, 4, .inl (k4i u_r_107.2.1 u_r_107.2.2.1 u_r_107.2.2.2.1 u_r_107.2.2.2.2.1))), (mS, .inl (cI, 4, .inl (k4i u_r_107.2.2.2.2.2.1 u_r_107.2.2.2.2.2.2.1 u_r_107.2.2.2.2.2.2.2.1 u_r_107.2.2.2.2.2.2.2.2)))] H := hP
                        have hD : va_D A [(m0, .inr (8, [.ref mH, .int aM, .long aC, .int mM, .long mQ, .int oV, .int pL, .int lI, .int sW, .int dP, .int sT, .long aT, .int 0, .int u_r_63.1, .ref mI, .ref mJ, .ref mS, .ref mD, .int iH, .int aE, .int mN, .long sZ, .ref mX, .int tS, .int tA, .int tW, .ref mA, .ref mB, .ref mW, .ref mL, .int lS])), (mI, .inl (cL, 1200, .inr (.inl u_r_107.1))), (mJ, .inl (cI, 4, .inl (k4i u_r_107.2.1 u_r_107.2.2.1 u_r_107.2.2.2.1 u_r_107.2.2.2.2.1))), (mS, .inl (cI, 4, .inl (k4i u_r_107.2.2.2.2.2.1 u_r_107.2.2.2.2.2.2.1 u_r_107.2.2.2.2.2.2.2.1 u_r_107.2.2.2.2.2.2.2.2)))] := hD
                        refine lv_goto (tgt := 251) hx hb dX8_reaches_235 (by decide) ?_
                        refine lv_iconst (v := 0) hx hb dX8_reaches_251 (by decide) ?_
                        refine kIret (u := (pL, lI, dP, 0, u_r_63.1, u_r_107.1, u_r_107.2.1, u_r_107.2.2.1, u_r_107.2.2.2.1, u_r_107.2.2.2.2.1, u_r_107.2.2.2.2.2.1, u_r_107.2.2.2.2.2.2.1, u_r_107.2.2.2.2.2.2.2.1, u_r_107.2.2.2.2.2.2.2.2)) hx hb hr rfl hlocks hS dX8_reaches_252 ?_ (hP.sub [0, 1, 2, 3] rfl) (hD.sub [0, 1, 2, 3] (by decide) rfl)
                        try dsimp only
                        try simp only [Int32.reduceToInt, Int64.reduceToInt, true_or, or_true, true_and, and_true]
                        repeat' apply And.intro
                        all_goals first | assumption | omega
                      · have t_225_107 := c_225_107
                        try simp only [kb_eq0, kb_ne0, lg_cmp_lt, lg_cmp_le, lg_cmp_gt, lg_cmp_ge, lg_cmp_eq] at t_225_107
                        try simp only [Int32.lt_iff_toInt_lt, Int32.le_iff_toInt_le, ← Int32.toInt_inj, Int64.lt_iff_toInt_lt, Int64.le_iff_toInt_le, ← Int64.toInt_inj, Int32.toInt_toInt64, Int32.reduceToInt, Int64.reduceToInt] at t_225_107
                        refine lv_iconst (v := 5) hx hb dX8_reaches_228 (by decide) ?_
                        refine kIret (u := (pL, lI, dP, cH, u_r_63.1, u_r_107.1, u_r_107.2.1, u_r_107.2.2.1, u_r_107.2.2.2.1, u_r_107.2.2.2.2.1, u_r_107.2.2.2.2.2.1, u_r_107.2.2.2.2.2.2.1, u_r_107.2.2.2.2.2.2.2.1, u_r_107.2.2.2.2.2.2.2.2)) hx hb hr rfl hlocks hS dX8_reaches_229 ?_ (hP.sub [0, 1, 2, 3] rfl) (hD.sub [0, 1, 2, 3] (by decide) rfl)
                        try dsimp only
                        try simp only [Int32.reduceToInt, Int64.reduceToInt, true_or, or_true, true_and, and_true]
                        repeat' apply And.intro
                        all_goals first | assumption | omega
                · have t_89_63 := c_89_63
                  try simp only [kb_eq0, kb_ne0, lg_cmp_lt, lg_cmp_le, lg_cmp_gt, lg_cmp_ge, lg_cmp_eq] at t_89_63
                  try simp only [Int32.lt_iff_toInt_lt, Int32.le_iff_toInt_le, ← Int32.toInt_inj, Int64.lt_iff_toInt_lt, Int64.le_iff_toInt_le, ← Int64.toInt_inj, Int32.toInt_toInt64, Int32.reduceToInt, Int64.reduceToInt] at t_89_63
                  refine lv_iconst (v := 5) hx hb dX8_reaches_92 (by decide) ?_
                  refine kIret (u := (pL, lI, dP, cH, u_r_63.1, u_r_63.2.1, u_r_63.2.2.1, u_r_63.2.2.2.1, u_r_63.2.2.2.2.1, u_r_63.2.2.2.2.2.1, u_r_63.2.2.2.2.2.2.1, u_r_63.2.2.2.2.2.2.2.1, u_r_63.2.2.2.2.2.2.2.2.1, u_r_63.2.2.2.2.2.2.2.2.2)) hx hb hr rfl hlocks hS dX8_reaches_93 ?_ (hP.sub [0, 1, 2, 3] rfl) (hD.sub [0, 1, 2, 3] (by decide) rfl)
                  try dsimp only
                  try simp only [Int32.reduceToInt, Int64.reduceToInt, true_or, or_true, true_and, and_true]
                  repeat' apply And.intro
                  all_goals first | assumption | omega
              · have t_80_61 := c_80_61
                try simp only [kb_eq0, kb_ne0, lg_cmp_lt, lg_cmp_le, lg_cmp_gt, lg_cmp_ge, lg_cmp_eq] at t_80_61
                try simp only [Int32.lt_iff_toInt_lt, Int32.le_iff_toInt_le, ← Int32.toInt_inj, Int64.lt_iff_toInt_lt, Int64.le_iff_toInt_le, ← Int64.toInt_inj, Int32.toInt_toInt64, Int32.reduceToInt, Int64.reduceToInt] at t_80_61
                refine lv_iconst (v := 4) hx hb dX8_reaches_83 (by decide) ?_
                refine kIret (u := (pL, lI, dP, cH, iW, fI, j0, j1, j2, j3, s0, s1, s2, s3)) hx hb hr rfl hlocks hS dX8_reaches_84 ?_ (hP.sub [0, 1, 2, 3] rfl) (hD.sub [0, 1, 2, 3] (by decide) rfl)
                try dsimp only
                try simp only [Int32.reduceToInt, Int64.reduceToInt, true_or, or_true, true_and, and_true]
                repeat' apply And.intro
                all_goals first | assumption | omega
          · have t_56_58 := c_56_58
            try simp only [kb_eq0, kb_ne0, lg_cmp_lt, lg_cmp_le, lg_cmp_gt, lg_cmp_ge, lg_cmp_eq] at t_56_58
            try simp only [Int32.lt_iff_toInt_lt, Int32.le_iff_toInt_le, ← Int32.toInt_inj, Int64.lt_iff_toInt_lt, Int64.le_iff_toInt_le, ← Int64.toInt_inj, Int32.toInt_toInt64, Int32.reduceToInt, Int64.reduceToInt] at t_56_58
            refine lv_iconst (v := 1) hx hb dX8_reaches_59 (by decide) ?_
            refine lv_goto (tgt := 64) hx hb dX8_reaches_60 (by decide) ?_
            refine lv_istore_n (lv' := [(3, .int 1), (0, .ref m0), (1, .int a), (2, .int b)]) hx hb dX8_reaches_64 rfl hl (by decide) rfl (fun ls hl => ?_)
            refine lv_iload_n hx hb dX8_reaches_65 rfl (lv_at hl 0 rfl) ?_
            refine lv_if_ne (tgt := 85) hx hb dX8_reaches_66 (by decide) (fun c_66_108 => ?_) (fun c_66_108 => ?_)
            · have t_66_108 := c_66_108
              try simp only [kb_eq0, kb_ne0, lg_cmp_lt, lg_cmp_le, lg_cmp_gt, lg_cmp_ge, lg_cmp_eq] at t_66_108
              try simp only [Int32.lt_iff_toInt_lt, Int32.le_iff_toInt_le, ← Int32.toInt_inj, Int64.lt_iff_toInt_lt, Int64.le_iff_toInt_le, ← Int64.toInt_inj, Int32.toInt_toInt64, Int32.reduceToInt, Int64.reduceToInt] at t_66_108
              refine lv_aload_n hx hb dX8_reaches_85 rfl (lv_at hl 1 rfl) ?_
              refine kCallI (wr := []) (va_runV (As := []) (rest := []) ⟨hx, hb, hml, hown, hts⟩ (q_endsRecord l D cI cL cB cZ cT _ m0 mH mI mJ mS mD mX mA mB mW mL aM aC mM mQ oV pL lI sW dP sT aT cH iW iH aE mN sZ tS tA tW lS fI j0 j1 j2 j3 s0 s1 s2 s3 (by omega) (by omega)) (cwV 0 hts gX8_reaches_X8_endsRecord rfl rfl rfl (by decide +kernel) ⟨Nat.le_of_ble_eq_true rfl, Nat.le_of_ble_eq_true rfl⟩) (kPreV hG hP hD [0, 1, 2, 3] rfl (by decide) 0 8 rfl rfl rfl) rfl rfl hl.1 rfl (lv_room (Nat.le_of_ble_eq_true rfl)) dX8_reaches_86 ⟨Nat.le_of_ble_eq_true rfl, Nat.le_of_ble_eq_true rfl⟩) hA hP hD hS [0, 1, 2, 3] [] rfl rfl (by decide) (by decide) (fun r_110 u_r_110 H locs wr_110 hP hD hS => ?_)
              have hP : va_P D vwCl [(m0, .inr (8, [.ref mH, .int aM, .long aC, .int mM, .long mQ, .int oV, .int pL, .int lI, .int sW, .int dP, .int sT, .long aT, .int cH, .int u_r_110.1, .ref mI, .ref mJ, .ref mS, .ref mD, .int iH, .int aE, .int mN, .long sZ, .ref mX, .int tS, .int tA, .int tW, .ref mA, .ref mB, .ref mW, .ref mL, .int lS])), (mI, .inl (cL, 1200, .inr (.inl u_r_110.2.1))), (mJ, .inl (cI, 4, .inl (k4i u_r_110.2.2.1 u_r_110.2.2.2.1 u_r_110.2.2.2.2.1 u_r_110.2.2.2.2.2.1))), (mS, .inl (cI, 4, .inl (k4i u_r_110.2.2.2.2.2.2.1 u_r_110.2.2.2.2.2.2.2.1 u_r_110.2.2.2.2.2.2.2.2.1 u_r_110.2.2.2.2.2.2.2.2.2)))] H := hP
              have hD : va_D A [(m0, .inr (8, [.ref mH, .int aM, .long aC, .int mM, .long mQ, .int oV, .int pL, .int lI, .int sW, .int dP, .int sT, .long aT, .int cH, .int u_r_110.1, .ref mI, .ref mJ, .ref mS, .ref mD, .int iH, .int aE, .int mN, .long sZ, .ref mX, .int tS, .int tA, .int tW, .ref mA, .ref mB, .ref mW, .ref mL, .int lS])), (mI, .inl (cL, 1200, .inr (.inl u_r_110.2.1))), (mJ, .inl (cI, 4, .inl (k4i u_r_110.2.2.1 u_r_110.2.2.2.1 u_r_110.2.2.2.2.1 u_r_110.2.2.2.2.2.1))), (mS, .inl (cI, 4, .inl (k4i u_r_110.2.2.2.2.2.2.1 u_r_110.2.2.2.2.2.2.2.1 u_r_110.2.2.2.2.2.2.2.2.1 u_r_110.2.2.2.2.2.2.2.2.2)))] := hD
              try dsimp only at wr_110
              try simp only [Int32.reduceToInt, Int64.reduceToInt] at wr_110
              refine lv_if_ne (tgt := 94) hx hb dX8_reaches_89 (by decide) (fun c_89_110 => ?_) (fun c_89_110 => ?_)
              · have t_89_110 := c_89_110
                try simp only [kb_eq0, kb_ne0, lg_cmp_lt, lg_cmp_le, lg_cmp_gt, lg_cmp_ge, lg_cmp_eq] at t_89_110
                try simp only [Int32.lt_iff_toInt_lt, Int32.le_iff_toInt_le, ← Int32.toInt_inj, Int64.lt_iff_toInt_lt, Int64.le_iff_toInt_le, ← Int64.toInt_inj, Int32.toInt_toInt64, Int32.reduceToInt, Int64.reduceToInt] at t_89_110
                obtain rfl : a = 26 := k_inj (by simp only [Int32.reduceToInt]; omega)
                obtain rfl : b = 128 := k_inj (by simp only [Int32.reduceToInt]; omega)
                refine lv_iload_n hx hb dX8_reaches_94 rfl (lv_at hl 3 rfl) ?_
                refine lv_sipush (v := 256) hx hb dX8_reaches_95 (by decide) ?_
                refine lv_isub hx hb dX8_reaches_98 ?_
                refine lv_topi (fun x_112 ex_112 => ?_)
                obtain rfl : x_112 = (-128) := ex_112.trans (by decide)
                refine lv_istore (lv' := [(4, .int (-128)), (3, .int 1), (0, .ref m0), (1, .int 26), (2, .int 128)]) hx hb dX8_reaches_99 hl (by decide) rfl (fun ls hl => ?_)
                refine lv_iload_n hx hb dX8_reaches_101 rfl (lv_at hl 3 rfl) ?_
                refine lv_tableIn (tgt := 163) (off := 61) hx hb dX8_reaches_102 (by decide) (by decide) (by decide) (by decide) ?_
                refine lv_iload_n hx hb dX8_reaches_163 rfl (lv_at hl 1 rfl) ?_
                refine lv_if_ne (tgt := 181) hx hb dX8_reaches_164 (by decide) (fun c_164_112 => ?_) (fun c_164_112 => ?_)
                · have t_164_112 := c_164_112
                  try simp only [kb_eq0, kb_ne0, lg_cmp_lt, lg_cmp_le, lg_cmp_gt, lg_cmp_ge, lg_cmp_eq] at t_164_112
                  try simp only [Int32.lt_iff_toInt_lt, Int32.le_iff_toInt_le, ← Int32.toInt_inj, Int64.lt_iff_toInt_lt, Int64.le_iff_toInt_le, ← Int64.toInt_inj, Int32.toInt_toInt64, Int32.reduceToInt, Int64.reduceToInt] at t_164_112
                  refine lv_aload_n hx hb dX8_reaches_181 rfl (lv_at hl 2 rfl) ?_
                  refine lv_iload_n hx hb dX8_reaches_182 rfl (lv_at hl 1 rfl) ?_
                  refine lv_if_eq (tgt := 191) hx hb dX8_reaches_183 (by decide) (fun c_183_113 => ?_) (fun c_183_113 => ?_)
                  · exact absurd c_183_113 (by decide)
                  · have t_183_113 := c_183_113
                    try simp only [kb_eq0, kb_ne0, lg_cmp_lt, lg_cmp_le, lg_cmp_gt, lg_cmp_ge, lg_cmp_eq] at t_183_113
                    try simp only [Int32.lt_iff_toInt_lt, Int32.le_iff_toInt_le, ← Int32.toInt_inj, Int64.lt_iff_toInt_lt, Int64.le_iff_toInt_le, ← Int64.toInt_inj, Int32.toInt_toInt64, Int32.reduceToInt, Int64.reduceToInt] at t_183_113
                    refine lv_bipush (v := 14) hx hb dX8_reaches_186 (by decide) ?_
                    refine lv_goto (tgt := 196) hx hb dX8_reaches_188 (by decide) ?_
                    refine va_put (D := D) (ci := 8) (v := .int 14) (ty := .int) (C := RX8) (T := TX8) (N := 31) hx hb hts iX8_reaches_X8 tyX8 tyX8_ok nmX8 hown hK hP hD hS 0 rfl rfl 12 (by decide) (hts (.fieldLink RX8 43 "TapeCalculatorModel" "chosen" "I") (List.mem_of_getElem? (i := 1) rfl)) (fun _ h9 => h9) rfl (by decide +kernel) rfl rfl (Nat.le_of_ble_eq_true rfl) dX8_reaches_196 (fun H locs hP hD hS => ?_)
                    have hP : va_P D vwCl [(m0, .inr (8, [.ref mH, .int aM, .long aC, .int mM, .long mQ, .int oV, .int pL, .int lI, .int sW, .int dP, .int sT, .long aT, .int 14, .int u_r_110.1, .ref mI, .ref mJ, .ref mS, .ref mD, .int iH, .int aE, .int mN, .long sZ, .ref mX, .int tS, .int tA, .int tW, .ref mA, .ref mB, .ref mW, .ref mL, .int lS])), (mI, .inl (cL, 1200, .inr (.inl u_r_110.2.1))), (mJ, .inl (cI, 4, .inl (k4i u_r_110.2.2.1 u_r_110.2.2.2.1 u_r_110.2.2.2.2.1 u_r_110.2.2.2.2.2.1))), (mS, .inl (cI, 4, .inl (k4i u_r_110.2.2.2.2.2.2.1 u_r_110.2.2.2.2.2.2.2.1 u_r_110.2.2.2.2.2.2.2.2.1 u_r_110.2.2.2.2.2.2.2.2.2)))] H := hP
                    have hD : va_D A [(m0, .inr (8, [.ref mH, .int aM, .long aC, .int mM, .long mQ, .int oV, .int pL, .int lI, .int sW, .int dP, .int sT, .long aT, .int 14, .int u_r_110.1, .ref mI, .ref mJ, .ref mS, .ref mD, .int iH, .int aE, .int mN, .long sZ, .ref mX, .int tS, .int tA, .int tW, .ref mA, .ref mB, .ref mW, .ref mL, .int lS])), (mI, .inl (cL, 1200, .inr (.inl u_r_110.2.1))), (mJ, .inl (cI, 4, .inl (k4i u_r_110.2.2.1 u_r_110.2.2.2.1 u_r_110.2.2.2.2.1 u_r_110.2.2.2.2.2.1))), (mS, .inl (cI, 4, .inl (k4i u_r_110.2.2.2.2.2.2.1 u_r_110.2.2.2.2.2.2.2.1 u_r_110.2.2.2.2.2.2.2.2.1 u_r_110.2.2.2.2.2.2.2.2.2)))] := hD
                    refine lv_goto (tgt := 251) hx hb dX8_reaches_199 (by decide) ?_
                    refine lv_iconst (v := 0) hx hb dX8_reaches_251 (by decide) ?_
                    refine kIret (u := (pL, lI, dP, 14, u_r_110.1, u_r_110.2.1, u_r_110.2.2.1, u_r_110.2.2.2.1, u_r_110.2.2.2.2.1, u_r_110.2.2.2.2.2.1, u_r_110.2.2.2.2.2.2.1, u_r_110.2.2.2.2.2.2.2.1, u_r_110.2.2.2.2.2.2.2.2.1, u_r_110.2.2.2.2.2.2.2.2.2)) hx hb hr rfl hlocks hS dX8_reaches_252 ?_ (hP.sub [0, 1, 2, 3] rfl) (hD.sub [0, 1, 2, 3] (by decide) rfl)
                    try dsimp only
                    try simp only [Int32.reduceToInt, Int64.reduceToInt, true_or, or_true, true_and, and_true]
                    repeat' apply And.intro
                    all_goals first | assumption | omega
                · exact absurd c_164_112 (by decide)
              · have t_89_110 := c_89_110
                try simp only [kb_eq0, kb_ne0, lg_cmp_lt, lg_cmp_le, lg_cmp_gt, lg_cmp_ge, lg_cmp_eq] at t_89_110
                try simp only [Int32.lt_iff_toInt_lt, Int32.le_iff_toInt_le, ← Int32.toInt_inj, Int64.lt_iff_toInt_lt, Int64.le_iff_toInt_le, ← Int64.toInt_inj, Int32.toInt_toInt64, Int32.reduceToInt, Int64.reduceToInt] at t_89_110
                refine lv_iconst (v := 5) hx hb dX8_reaches_92 (by decide) ?_
                refine kIret (u := (pL, lI, dP, cH, u_r_110.1, u_r_110.2.1, u_r_110.2.2.1, u_r_110.2.2.2.1, u_r_110.2.2.2.2.1, u_r_110.2.2.2.2.2.1, u_r_110.2.2.2.2.2.2.1, u_r_110.2.2.2.2.2.2.2.1, u_r_110.2.2.2.2.2.2.2.2.1, u_r_110.2.2.2.2.2.2.2.2.2)) hx hb hr rfl hlocks hS dX8_reaches_93 ?_ (hP.sub [0, 1, 2, 3] rfl) (hD.sub [0, 1, 2, 3] (by decide) rfl)
                try dsimp only
                try simp only [Int32.reduceToInt, Int64.reduceToInt, true_or, or_true, true_and, and_true]
                repeat' apply And.intro
                all_goals first | assumption | omega
            · exact absurd c_66_108 (by decide)
    · have t_15_1 := c_15_1
      try simp only [kb_eq0, kb_ne0, lg_cmp_lt, lg_cmp_le, lg_cmp_gt, lg_cmp_ge, lg_cmp_eq] at t_15_1
      try simp only [Int32.lt_iff_toInt_lt, Int32.le_iff_toInt_le, ← Int32.toInt_inj, Int64.lt_iff_toInt_lt, Int64.le_iff_toInt_le, ← Int64.toInt_inj, Int32.toInt_toInt64, Int32.reduceToInt, Int64.reduceToInt] at t_15_1
      refine lv_aload_n hx hb dX8_reaches_18 rfl (lv_at hl 0 rfl) ?_
      refine va_get (D := D) (ci := 8) (v := .int cH) (C := RX8) (T := TX8) (N := 31) hx hb hts iX8_reaches_X8 hown hK hP 0 rfl rfl 12 (by decide) (hts (.fieldLink RX8 43 "TapeCalculatorModel" "chosen" "I") (List.mem_of_getElem? (i := 1) rfl)) (fun _ h9 => h9) rfl dX8_reaches_19 ?_
      refine lv_bipush (v := 13) hx hb dX8_reaches_22 (by decide) ?_
      refine lv_icmp_ge (tgt := 29) hx hb dX8_reaches_24 (by decide) (fun c_24_114 => ?_) (fun c_24_114 => ?_)
      · have t_24_114 := c_24_114
        try simp only [kb_eq0, kb_ne0, lg_cmp_lt, lg_cmp_le, lg_cmp_gt, lg_cmp_ge, lg_cmp_eq] at t_24_114
        try simp only [Int32.lt_iff_toInt_lt, Int32.le_iff_toInt_le, ← Int32.toInt_inj, Int64.lt_iff_toInt_lt, Int64.le_iff_toInt_le, ← Int64.toInt_inj, Int32.toInt_toInt64, Int32.reduceToInt, Int64.reduceToInt] at t_24_114
        have hk8 := k_and (x := b) (m := 255) 8 (by decide) (by decide)
        refine lv_aload_n hx hb dX8_reaches_29 rfl (lv_at hl 0 rfl) ?_
        refine lv_iload_n hx hb dX8_reaches_30 rfl (lv_at hl 2 rfl) ?_
        refine lv_sipush (v := 255) hx hb dX8_reaches_31 (by decide) ?_
        refine lv_iand hx hb dX8_reaches_34 ?_
        refine lv_topi (fun x_116 ex_116 => ?_)
        refine va_put (D := D) (ci := 8) (v := .int x_116) (ty := .int) (C := RX8) (T := TX8) (N := 31) hx hb hts iX8_reaches_X8 tyX8 tyX8_ok nmX8 hown hK hP hD hS 0 rfl rfl 9 (by decide) (hts (.fieldLink RX8 84 "TapeCalculatorModel" "drumPlace" "I") (List.mem_of_getElem? (i := 2) rfl)) (fun _ h9 => h9) rfl (by decide +kernel) rfl rfl (Nat.le_of_ble_eq_true rfl) dX8_reaches_35 (fun H locs hP hD hS => ?_)
        have hP : va_P D vwCl [(m0, .inr (8, [.ref mH, .int aM, .long aC, .int mM, .long mQ, .int oV, .int pL, .int lI, .int sW, .int x_116, .int sT, .long aT, .int cH, .int iW, .ref mI, .ref mJ, .ref mS, .ref mD, .int iH, .int aE, .int mN, .long sZ, .ref mX, .int tS, .int tA, .int tW, .ref mA, .ref mB, .ref mW, .ref mL, .int lS])), (mI, .inl (cL, 1200, .inr (.inl fI))), (mJ, .inl (cI, 4, .inl (k4i j0 j1 j2 j3))), (mS, .inl (cI, 4, .inl (k4i s0 s1 s2 s3)))] H := hP
        have hD : va_D A [(m0, .inr (8, [.ref mH, .int aM, .long aC, .int mM, .long mQ, .int oV, .int pL, .int lI, .int sW, .int x_116, .int sT, .long aT, .int cH, .int iW, .ref mI, .ref mJ, .ref mS, .ref mD, .int iH, .int aE, .int mN, .long sZ, .ref mX, .int tS, .int tA, .int tW, .ref mA, .ref mB, .ref mW, .ref mL, .int lS])), (mI, .inl (cL, 1200, .inr (.inl fI))), (mJ, .inl (cI, 4, .inl (k4i j0 j1 j2 j3))), (mS, .inl (cI, 4, .inl (k4i s0 s1 s2 s3)))] := hD
        refine lv_iconst (v := 0) hx hb dX8_reaches_38 (by decide) ?_
        refine kIret (u := (pL, lI, x_116, cH, iW, fI, j0, j1, j2, j3, s0, s1, s2, s3)) hx hb hr rfl hlocks hS dX8_reaches_39 ?_ (hP.sub [0, 1, 2, 3] rfl) (hD.sub [0, 1, 2, 3] (by decide) rfl)
        try dsimp only
        try simp only [Int32.reduceToInt, Int64.reduceToInt, true_or, or_true, true_and, and_true]
        repeat' apply And.intro
        all_goals first | assumption | omega
      · have t_24_114 := c_24_114
        try simp only [kb_eq0, kb_ne0, lg_cmp_lt, lg_cmp_le, lg_cmp_gt, lg_cmp_ge, lg_cmp_eq] at t_24_114
        try simp only [Int32.lt_iff_toInt_lt, Int32.le_iff_toInt_le, ← Int32.toInt_inj, Int64.lt_iff_toInt_lt, Int64.le_iff_toInt_le, ← Int64.toInt_inj, Int32.toInt_toInt64, Int32.reduceToInt, Int64.reduceToInt] at t_24_114
        refine lv_iconst (v := 4) hx hb dX8_reaches_27 (by decide) ?_
        refine kIret (u := (pL, lI, dP, cH, iW, fI, j0, j1, j2, j3, s0, s1, s2, s3)) hx hb hr rfl hlocks hS dX8_reaches_28 ?_ (hP.sub [0, 1, 2, 3] rfl) (hD.sub [0, 1, 2, 3] (by decide) rfl)
        try dsimp only
        try simp only [Int32.reduceToInt, Int64.reduceToInt, true_or, or_true, true_and, and_true]
        repeat' apply And.intro
        all_goals first | assumption | omega
  · have t_3_0 := c_3_0
    try simp only [kb_eq0, kb_ne0, lg_cmp_lt, lg_cmp_le, lg_cmp_gt, lg_cmp_ge, lg_cmp_eq] at t_3_0
    try simp only [Int32.lt_iff_toInt_lt, Int32.le_iff_toInt_le, ← Int32.toInt_inj, Int64.lt_iff_toInt_lt, Int64.le_iff_toInt_le, ← Int64.toInt_inj, Int32.toInt_toInt64, Int32.reduceToInt, Int64.reduceToInt] at t_3_0
    refine lv_aload_n hx hb dX8_reaches_6 rfl (lv_at hl 0 rfl) ?_
    refine lv_iload_n hx hb dX8_reaches_7 rfl (lv_at hl 2 rfl) ?_
    refine kCallI (wr := [(mI, .inl (cL, 1200, .inr (.inl fI))), (mJ, .inl (cI, 4, .inl (k4i j0 j1 j2 j3))), (mS, .inl (cI, 4, .inl (k4i s0 s1 s2 s3)))]) (va_runV (As := [.int b]) (rest := []) ⟨hx, hb, hml, hown, hts⟩ (q_senses l D cI cL cB cZ cT _ m0 mH mI mJ mS mD mX mA mB mW mL aM aC mM mQ oV pL lI sW dP sT aT cH iW iH aE mN sZ tS tA tW lS b (by omega)) (cwV 1 hts gX8_reaches_X8_senses rfl rfl rfl (by decide +kernel) ⟨Nat.le_of_ble_eq_true rfl, Nat.le_of_ble_eq_true rfl⟩) (kPreV hG hP hD [0] rfl (by decide) 0 8 rfl rfl rfl) rfl rfl hl.1 rfl (lv_room (Nat.le_of_ble_eq_true rfl)) dX8_reaches_8 ⟨Nat.le_of_ble_eq_true rfl, Nat.le_of_ble_eq_true rfl⟩) hA hP hD hS [0] [1, 2, 3] rfl rfl (by decide) (by decide) (fun r_117 u_r_117 H locs wr_117 hP hD hS => ?_)
    have hP : va_P D vwCl [(mI, .inl (cL, 1200, .inr (.inl fI))), (mJ, .inl (cI, 4, .inl (k4i j0 j1 j2 j3))), (mS, .inl (cI, 4, .inl (k4i s0 s1 s2 s3))), (m0, .inr (8, [.ref mH, .int aM, .long aC, .int mM, .long mQ, .int oV, .int u_r_117.1, .int u_r_117.2, .int sW, .int dP, .int sT, .long aT, .int cH, .int iW, .ref mI, .ref mJ, .ref mS, .ref mD, .int iH, .int aE, .int mN, .long sZ, .ref mX, .int tS, .int tA, .int tW, .ref mA, .ref mB, .ref mW, .ref mL, .int lS]))] H := hP
    have hD : va_D A [(mI, .inl (cL, 1200, .inr (.inl fI))), (mJ, .inl (cI, 4, .inl (k4i j0 j1 j2 j3))), (mS, .inl (cI, 4, .inl (k4i s0 s1 s2 s3))), (m0, .inr (8, [.ref mH, .int aM, .long aC, .int mM, .long mQ, .int oV, .int u_r_117.1, .int u_r_117.2, .int sW, .int dP, .int sT, .long aT, .int cH, .int iW, .ref mI, .ref mJ, .ref mS, .ref mD, .int iH, .int aE, .int mN, .long sZ, .ref mX, .int tS, .int tA, .int tW, .ref mA, .ref mB, .ref mW, .ref mL, .int lS]))] := hD
    try dsimp only at wr_117
    try simp only [Int32.reduceToInt, Int64.reduceToInt] at wr_117
    refine kIret (u := (u_r_117.1, u_r_117.2, dP, cH, iW, fI, j0, j1, j2, j3, s0, s1, s2, s3)) hx hb hr rfl hlocks hS dX8_reaches_11 ?_ (hP.sub [3, 0, 1, 2] rfl) (hD.sub [3, 0, 1, 2] (by decide) rfl)
    try dsimp only
    try simp only [Int32.reduceToInt, Int64.reduceToInt, true_or, or_true, true_and, and_true]
    repeat' apply And.intro
    all_goals first | assumption | omega
set_option maxRecDepth 100000 in
theorem iX8_copies_X8 : ∀ w ∈ wsX80, w ∈ wsX8_copies := fun w h => (goodIn_r (big := wsX8_copies) wsX80 [43, 44, 45, 46, 47, 48, 49, 50, 51, 52, 53, 54, 55, 56, 57, 58, 59, 60, 61, 62, 63, 64, 65, 66, 67, 68, 69, 70, 71, 72, 73] rfl (by decide +kernel) w h).1
set_option maxRecDepth 100000 in
set_option maxHeartbeats 4000000 in
theorem q_copies (l : Launch) (D : va_G) (cI cL cB cZ cT : ClassId) (sz : Nat) (m0 mH mI mJ mS mD mX mA mB mW mL : Nat) (aM : Int32) (aC : Int64) (mM : Int32) (mQ : Int64) (oV pL lI sW dP sT : Int32) (aT : Int64) (cH iW iH aE mN : Int32) (sZ : Int64) (tS tA tW lS : Int32) (fH : Nat → Int32) (fI : Nat → Int64) (j0 j1 j2 j3 : Int32) (s0 s1 s2 s3 : Int32) (fD : Nat → Int64) (hpl : 0 ≤ pL.toInt ∧ pL.toInt ≤ 511) (hdp : 0 ≤ dP.toInt ∧ dP.toInt ≤ 255) (hch : 0 ≤ cH.toInt ∧ cH.toInt ≤ 14) (hiw : iW.toInt = 0 ∨ (iW.toInt = 1 ∧ 9 ≤ cH.toInt ∧ cH.toInt ≤ 12)) (hti : 0 ≤ s0.toInt ∧ s0.toInt ≤ j0.toInt ∧ j0.toInt ≤ 300 ∧ 0 ≤ s1.toInt ∧ s1.toInt ≤ j1.toInt ∧ j1.toInt ≤ 300 ∧ 0 ≤ s2.toInt ∧ s2.toInt ≤ j2.toInt ∧ j2.toInt ≤ 300 ∧ 0 ≤ s3.toInt ∧ s3.toInt ≤ j3.toInt ∧ j3.toInt ≤ 300) (had : 0 ≤ aE.toInt ∧ aE.toInt ≤ 511 ∧ (iH.toInt = 0 ∨ aE.toInt ≤ 510)) : kM (S := (Int32 × Int32 × Int32 × Int32 × (Nat → Int32) × (Nat → Int64) × (Nat → Int64) × Int32 × Int32 × Int32 × Int32 × Int32 × Int32 × Int32 × Int32)) l yX8_copies wsX8_copies ({ frames := 2, cells := 0, slots := 0, locals := 45 }) D (kT cI cL cB cZ cT) [.ref m0] [(m0, .inr (8, [.ref mH, .int aM, .long aC, .int mM, .long mQ, .int oV, .int pL, .int lI, .int sW, .int dP, .int sT, .long aT, .int cH, .int iW, .ref mI, .ref mJ, .ref mS, .ref mD, .int iH, .int aE, .int mN, .long sZ, .ref mX, .int tS, .int tA, .int tW, .ref mA, .ref mB, .ref mW, .ref mL, .int lS])), (mH, .inl (cI, 512, .inl fH)), (mI, .inl (cL, 1200, .inr (.inl fI))), (mJ, .inl (cI, 4, .inl (k4i j0 j1 j2 j3))), (mS, .inl (cI, 4, .inl (k4i s0 s1 s2 s3))), (mD, .inl (cL, 256, .inr (.inl fD)))] sz eI (fun r u => (0 ≤ r.toInt ∧ r.toInt ≤ 6) ∧ (0 ≤ ((u.1)).toInt ∧ ((u.1)).toInt ≤ 511) ∧ (0 ≤ ((u.2.1)).toInt ∧ ((u.2.1)).toInt ≤ 255) ∧ (0 ≤ ((u.2.2.1)).toInt ∧ ((u.2.2.1)).toInt ≤ 14) ∧ (((u.2.2.2.1)).toInt = 0 ∨ (((u.2.2.2.1)).toInt = 1 ∧ 9 ≤ ((u.2.2.1)).toInt ∧ ((u.2.2.1)).toInt ≤ 12)) ∧ 0 ≤ ((u.2.2.2.2.2.2.2.2.2.2.2.1)).toInt ∧ ((u.2.2.2.2.2.2.2.2.2.2.2.1)).toInt ≤ ((u.2.2.2.2.2.2.2.1)).toInt ∧ ((u.2.2.2.2.2.2.2.1)).toInt ≤ 300 ∧ 0 ≤ ((u.2.2.2.2.2.2.2.2.2.2.2.2.1)).toInt ∧ ((u.2.2.2.2.2.2.2.2.2.2.2.2.1)).toInt ≤ ((u.2.2.2.2.2.2.2.2.1)).toInt ∧ ((u.2.2.2.2.2.2.2.2.1)).toInt ≤ 300 ∧ 0 ≤ ((u.2.2.2.2.2.2.2.2.2.2.2.2.2.1)).toInt ∧ ((u.2.2.2.2.2.2.2.2.2.2.2.2.2.1)).toInt ≤ ((u.2.2.2.2.2.2.2.2.2.1)).toInt ∧ ((u.2.2.2.2.2.2.2.2.2.1)).toInt ≤ 300 ∧ 0 ≤ ((u.2.2.2.2.2.2.2.2.2.2.2.2.2.2)).toInt ∧ ((u.2.2.2.2.2.2.2.2.2.2.2.2.2.2)).toInt ≤ ((u.2.2.2.2.2.2.2.2.2.2.1)).toInt ∧ ((u.2.2.2.2.2.2.2.2.2.2.1)).toInt ≤ 300) (fun u => [(m0, .inr (8, [.ref mH, .int aM, .long aC, .int mM, .long mQ, .int oV, .int u.1, .int lI, .int sW, .int u.2.1, .int sT, .long aT, .int u.2.2.1, .int u.2.2.2.1, .ref mI, .ref mJ, .ref mS, .ref mD, .int iH, .int aE, .int mN, .long sZ, .ref mX, .int tS, .int tA, .int tW, .ref mA, .ref mB, .ref mW, .ref mL, .int lS])), (mH, .inl (cI, 512, .inl u.2.2.2.2.1)), (mI, .inl (cL, 1200, .inr (.inl u.2.2.2.2.2.2.1))), (mJ, .inl (cI, 4, .inl (k4i u.2.2.2.2.2.2.2.1 u.2.2.2.2.2.2.2.2.1 u.2.2.2.2.2.2.2.2.2.1 u.2.2.2.2.2.2.2.2.2.2.1))), (mS, .inl (cI, 4, .inl (k4i u.2.2.2.2.2.2.2.2.2.2.2.1 u.2.2.2.2.2.2.2.2.2.2.2.2.1 u.2.2.2.2.2.2.2.2.2.2.2.2.2.1 u.2.2.2.2.2.2.2.2.2.2.2.2.2.2))), (mD, .inl (cL, 256, .inr (.inl u.2.2.2.2.2.1)))]) 0 0 := by
  refine kStart (cc := cX8_copies) (maxL := 6) (ret := (some .int)) (own := RX8) (by decide) rfl rfl (Nat.le_of_ble_eq_true rfl) ?_
  intro p e s m args below meth c A ls hx hb hr hml hown hts hlocks hnm hsz hA hG hP hD hS hl
  have hK := hG.1
  have hl : lv_has ls 6 [(0, .ref m0)] := hl
  rcases ksw_0_14 cH with hsw | rfl | rfl | rfl | rfl | rfl | rfl | rfl | rfl | rfl | rfl | rfl | rfl | rfl | rfl | rfl
  · omega
  · have hk8 := k_and (x := dP + 1) (m := 255) 8 (by decide) (by decide)
    refine lv_aload_n hx hb dX8_copies_0 rfl (lv_at hl 0 rfl) ?_
    refine va_get (D := D) (ci := 8) (v := .int 0) (C := RX8) (T := TX8) (N := 31) hx hb hts iX8_copies_X8 hown hK hP 0 rfl rfl 12 (by decide) (hts (.fieldLink RX8 43 "TapeCalculatorModel" "chosen" "I") (List.mem_of_getElem? (i := 1) rfl)) (fun _ h9 => h9) rfl dX8_copies_1 ?_
    refine lv_if_ne (tgt := 10) hx hb dX8_copies_4 (by decide) (fun c_4_0 => ?_) (fun c_4_0 => ?_)
    · exact absurd (by decide) c_4_0
    · have t_4_0 := c_4_0
      try simp only [kb_eq0, kb_ne0, lg_cmp_lt, lg_cmp_le, lg_cmp_gt, lg_cmp_ge, lg_cmp_eq] at t_4_0
      try simp only [Int32.lt_iff_toInt_lt, Int32.le_iff_toInt_le, ← Int32.toInt_inj, Int64.lt_iff_toInt_lt, Int64.le_iff_toInt_le, ← Int64.toInt_inj, Int32.toInt_toInt64, Int32.reduceToInt, Int64.reduceToInt] at t_4_0
      refine lv_bipush (v := 6) hx hb dX8_copies_7 (by decide) ?_
      refine kIret (u := (pL, dP, 0, iW, fH, fD, fI, j0, j1, j2, j3, s0, s1, s2, s3)) hx hb hr rfl hlocks hS dX8_copies_9 ?_ (hP.sub [0, 1, 2, 3, 4, 5] rfl) (hD.sub [0, 1, 2, 3, 4, 5] (by decide) rfl)
      try dsimp only
      try simp only [Int32.reduceToInt, Int64.reduceToInt, true_or, or_true, true_and, and_true]
      repeat' apply And.intro
      all_goals first | assumption | omega
  · have hk8 := k_and (x := dP + 1) (m := 255) 8 (by decide) (by decide)
    have hs0 := k_sub (a := j0) (b := 1) (by omega) (by decide)
    simp only [Int32.reduceToInt] at hs0
    have hs1 := k_sub (a := s0) (b := 1) (by omega) (by decide)
    simp only [Int32.reduceToInt] at hs1
    have hs2 := k_addg (a := s0) (b := 1) (by omega) (by decide)
    have hs3 := k_addg (a := s0) (b := (-1)) (by omega) (by decide)
    simp only [Int32.reduceToInt, show (-1 : Int32).toInt = -1 from rfl] at hs2 hs3
    refine lv_aload_n hx hb dX8_copies_0 rfl (lv_at hl 0 rfl) ?_
    refine va_get (D := D) (ci := 8) (v := .int 1) (C := RX8) (T := TX8) (N := 31) hx hb hts iX8_copies_X8 hown hK hP 0 rfl rfl 12 (by decide) (hts (.fieldLink RX8 43 "TapeCalculatorModel" "chosen" "I") (List.mem_of_getElem? (i := 1) rfl)) (fun _ h9 => h9) rfl dX8_copies_1 ?_
    refine lv_if_ne (tgt := 10) hx hb dX8_copies_4 (by decide) (fun c_4_1 => ?_) (fun c_4_1 => ?_)
    · have t_4_1 := c_4_1
      try simp only [kb_eq0, kb_ne0, lg_cmp_lt, lg_cmp_le, lg_cmp_gt, lg_cmp_ge, lg_cmp_eq] at t_4_1
      try simp only [Int32.lt_iff_toInt_lt, Int32.le_iff_toInt_le, ← Int32.toInt_inj, Int64.lt_iff_toInt_lt, Int64.le_iff_toInt_le, ← Int64.toInt_inj, Int32.toInt_toInt64, Int32.reduceToInt, Int64.reduceToInt] at t_4_1
      refine lv_aload_n hx hb dX8_copies_10 rfl (lv_at hl 0 rfl) ?_
      refine va_get (D := D) (ci := 8) (v := .int 1) (C := RX8) (T := TX8) (N := 31) hx hb hts iX8_copies_X8 hown hK hP 0 rfl rfl 12 (by decide) (hts (.fieldLink RX8 43 "TapeCalculatorModel" "chosen" "I") (List.mem_of_getElem? (i := 1) rfl)) (fun _ h9 => h9) rfl dX8_copies_11 ?_
      refine lv_bipush (v := 12) hx hb dX8_copies_14 (by decide) ?_
      refine lv_icmp_le (tgt := 73) hx hb dX8_copies_16 (by decide) (fun c_16_2 => ?_) (fun c_16_2 => ?_)
      · have t_16_2 := c_16_2
        try simp only [kb_eq0, kb_ne0, lg_cmp_lt, lg_cmp_le, lg_cmp_gt, lg_cmp_ge, lg_cmp_eq] at t_16_2
        try simp only [Int32.lt_iff_toInt_lt, Int32.le_iff_toInt_le, ← Int32.toInt_inj, Int64.lt_iff_toInt_lt, Int64.le_iff_toInt_le, ← Int64.toInt_inj, Int32.toInt_toInt64, Int32.reduceToInt, Int64.reduceToInt] at t_16_2
        refine lv_aload_n hx hb dX8_copies_73 rfl (lv_at hl 0 rfl) ?_
        refine va_get (D := D) (ci := 8) (v := .int 1) (C := RX8) (T := TX8) (N := 31) hx hb hts iX8_copies_X8 hown hK hP 0 rfl rfl 12 (by decide) (hts (.fieldLink RX8 43 "TapeCalculatorModel" "chosen" "I") (List.mem_of_getElem? (i := 1) rfl)) (fun _ h9 => h9) rfl dX8_copies_74 ?_
        refine lv_bipush (v := 8) hx hb dX8_copies_77 (by decide) ?_
        refine lv_icmp_le (tgt := 109) hx hb dX8_copies_79 (by decide) (fun c_79_3 => ?_) (fun c_79_3 => ?_)
        · have t_79_3 := c_79_3
          try simp only [kb_eq0, kb_ne0, lg_cmp_lt, lg_cmp_le, lg_cmp_gt, lg_cmp_ge, lg_cmp_eq] at t_79_3
          try simp only [Int32.lt_iff_toInt_lt, Int32.le_iff_toInt_le, ← Int32.toInt_inj, Int64.lt_iff_toInt_lt, Int64.le_iff_toInt_le, ← Int64.toInt_inj, Int32.toInt_toInt64, Int32.reduceToInt, Int64.reduceToInt] at t_79_3
          refine lv_aload_n hx hb dX8_copies_109 rfl (lv_at hl 0 rfl) ?_
          refine va_get (D := D) (ci := 8) (v := .int 1) (C := RX8) (T := TX8) (N := 31) hx hb hts iX8_copies_X8 hown hK hP 0 rfl rfl 12 (by decide) (hts (.fieldLink RX8 43 "TapeCalculatorModel" "chosen" "I") (List.mem_of_getElem? (i := 1) rfl)) (fun _ h9 => h9) rfl dX8_copies_110 ?_
          refine lv_iconst (v := 4) hx hb dX8_copies_113 (by decide) ?_
          refine lv_icmp_le (tgt := 121) hx hb dX8_copies_114 (by decide) (fun c_114_4 => ?_) (fun c_114_4 => ?_)
          · have t_114_4 := c_114_4
            try simp only [kb_eq0, kb_ne0, lg_cmp_lt, lg_cmp_le, lg_cmp_gt, lg_cmp_ge, lg_cmp_eq] at t_114_4
            try simp only [Int32.lt_iff_toInt_lt, Int32.le_iff_toInt_le, ← Int32.toInt_inj, Int64.lt_iff_toInt_lt, Int64.le_iff_toInt_le, ← Int64.toInt_inj, Int32.toInt_toInt64, Int32.reduceToInt, Int64.reduceToInt] at t_114_4
            refine lv_iconst (v := 0) hx hb dX8_copies_121 (by decide) ?_
            refine lv_istore_n (lv' := [(1, .int 0), (0, .ref m0)]) hx hb dX8_copies_122 rfl hl (by decide) rfl (fun ls hl => ?_)
            refine lv_iload_n hx hb dX8_copies_123 rfl (lv_at hl 0 rfl) ?_
            refine lv_if_eq (tgt := 136) hx hb dX8_copies_124 (by decide) (fun c_124_5 => ?_) (fun c_124_5 => ?_)
            · have t_124_5 := c_124_5
              try simp only [kb_eq0, kb_ne0, lg_cmp_lt, lg_cmp_le, lg_cmp_gt, lg_cmp_ge, lg_cmp_eq] at t_124_5
              try simp only [Int32.lt_iff_toInt_lt, Int32.le_iff_toInt_le, ← Int32.toInt_inj, Int64.lt_iff_toInt_lt, Int64.le_iff_toInt_le, ← Int64.toInt_inj, Int32.toInt_toInt64, Int32.reduceToInt, Int64.reduceToInt] at t_124_5
              refine lv_aload_n hx hb dX8_copies_136 rfl (lv_at hl 1 rfl) ?_
              refine va_get (D := D) (ci := 8) (v := .int 1) (C := RX8) (T := TX8) (N := 31) hx hb hts iX8_copies_X8 hown hK hP 0 rfl rfl 12 (by decide) (hts (.fieldLink RX8 43 "TapeCalculatorModel" "chosen" "I") (List.mem_of_getElem? (i := 1) rfl)) (fun _ h9 => h9) rfl dX8_copies_137 ?_
              refine lv_iconst (v := 1) hx hb dX8_copies_140 (by decide) ?_
              refine lv_isub hx hb dX8_copies_141 ?_
              refine lv_topi (fun x_7 ex_7 => ?_)
              obtain rfl : x_7 = 0 := ex_7.trans (by decide)
              refine lv_istore_n (lv' := [(2, .int 0), (1, .int 0), (0, .ref m0)]) hx hb dX8_copies_142 rfl hl (by decide) rfl (fun ls hl => ?_)
              refine lv_iload_n hx hb dX8_copies_143 rfl (lv_at hl 1 rfl) ?_
              refine lv_if_eq (tgt := 158) hx hb dX8_copies_144 (by decide) (fun c_144_7 => ?_) (fun c_144_7 => ?_)
              · have t_144_7 := c_144_7
                try simp only [kb_eq0, kb_ne0, lg_cmp_lt, lg_cmp_le, lg_cmp_gt, lg_cmp_ge, lg_cmp_eq] at t_144_7
                try simp only [Int32.lt_iff_toInt_lt, Int32.le_iff_toInt_le, ← Int32.toInt_inj, Int64.lt_iff_toInt_lt, Int64.le_iff_toInt_le, ← Int64.toInt_inj, Int32.toInt_toInt64, Int32.reduceToInt, Int64.reduceToInt] at t_144_7
                refine lv_aload_n hx hb dX8_copies_158 rfl (lv_at hl 2 rfl) ?_
                refine va_get (D := D) (ci := 8) (v := .ref mS) (C := RX8) (T := TX8) (N := 31) hx hb hts iX8_copies_X8 hown hK hP 0 rfl rfl 16 (by decide) (hts (.fieldLink RX8 20 "TapeCalculatorModel" "stands" "[I") (List.mem_of_getElem? (i := 5) rfl)) (fun _ h9 => h9) rfl dX8_copies_159 ?_
                refine lv_iload_n hx hb dX8_copies_162 rfl (lv_at hl 0 rfl) ?_
                refine va_iald hx hb hK hP 4 0 rfl rfl (vp_in_iff.mpr (by decide)) dX8_copies_163 ?_
                refine lv_topi (fun x_9 ex_9 => ?_)
                obtain rfl : s0 = x_9 := ex_9.symm
                refine lv_istore_n (lv' := [(3, .int s0), (2, .int 0), (1, .int 0), (0, .ref m0)]) hx hb dX8_copies_164 rfl hl (by decide) rfl (fun ls hl => ?_)
                refine lv_iload_n hx hb dX8_copies_165 rfl (lv_at hl 0 rfl) ?_
                refine lv_i2l hx hb dX8_copies_166 rfl ?_
                refine lv_lconst (v := 0) hx hb dX8_copies_167 (by decide) ?_
                refine lv_aload_n hx hb dX8_copies_168 rfl (lv_at hl 3 rfl) ?_
                refine va_get (D := D) (ci := 8) (v := .ref mJ) (C := RX8) (T := TX8) (N := 31) hx hb hts iX8_copies_X8 hown hK hP 0 rfl rfl 15 (by decide) (hts (.fieldLink RX8 17 "TapeCalculatorModel" "items" "[I") (List.mem_of_getElem? (i := 6) rfl)) (fun _ h9 => h9) rfl dX8_copies_169 ?_
                refine lv_iload_n hx hb dX8_copies_172 rfl (lv_at hl 1 rfl) ?_
                refine va_iald hx hb hK hP 3 0 rfl rfl (vp_in_iff.mpr (by decide)) dX8_copies_173 ?_
                refine lv_topi (fun x_10 ex_10 => ?_)
                obtain rfl : j0 = x_10 := ex_10.symm
                refine lv_iconst (v := 1) hx hb dX8_copies_174 (by decide) ?_
                refine lv_isub hx hb dX8_copies_175 ?_
                refine lv_i2l hx hb dX8_copies_176 rfl ?_
                refine kCallI (wr := [(m0, .inr (8, [.ref mH, .int aM, .long aC, .int mM, .long mQ, .int oV, .int pL, .int lI, .int sW, .int dP, .int sT, .long aT, .int 1, .int iW, .ref mI, .ref mJ, .ref mS, .ref mD, .int iH, .int aE, .int mN, .long sZ, .ref mX, .int tS, .int tA, .int tW, .ref mA, .ref mB, .ref mW, .ref mL, .int lS])), (mH, .inl (cI, 512, .inl fH)), (mI, .inl (cL, 1200, .inr (.inl fI))), (mJ, .inl (cI, 4, .inl (k4i j0 j1 j2 j3))), (mS, .inl (cI, 4, .inl (k4i s0 s1 s2 s3))), (mD, .inl (cL, 256, .inr (.inl fD)))]) (va_runS (As := [.long s0.toInt64, .long 0, .long (j0 - 1).toInt64]) (rest := []) ⟨hx, hb, hml, hown, hts⟩ (q_in l D cI cL cB cZ cT _ (s0.toInt64) 0 (j0 - 1).toInt64) (va_cwS 3 hts gX8_copies_X8_in rfl rfl rfl (by decide +kernel) ⟨Nat.le_of_ble_eq_true rfl, Nat.le_of_ble_eq_true rfl⟩) (kPreS hG hP hD [] rfl (by decide)) rfl rfl hl.1 rfl (lv_room (Nat.le_of_ble_eq_true rfl)) dX8_copies_177 ⟨Nat.le_of_ble_eq_true rfl, Nat.le_of_ble_eq_true rfl⟩) hA hP hD hS [] [0, 1, 2, 3, 4, 5] rfl rfl (by decide) (by decide) (fun r_11 u_r_11 H locs wr_11 hP hD hS => ?_)
                have hP : va_P D vwCl [(m0, .inr (8, [.ref mH, .int aM, .long aC, .int mM, .long mQ, .int oV, .int pL, .int lI, .int sW, .int dP, .int sT, .long aT, .int 1, .int iW, .ref mI, .ref mJ, .ref mS, .ref mD, .int iH, .int aE, .int mN, .long sZ, .ref mX, .int tS, .int tA, .int tW, .ref mA, .ref mB, .ref mW, .ref mL, .int lS])), (mH, .inl (cI, 512, .inl fH)), (mI, .inl (cL, 1200, .inr (.inl fI))), (mJ, .inl (cI, 4, .inl (k4i j0 j1 j2 j3))), (mS, .inl (cI, 4, .inl (k4i s0 s1 s2 s3))), (mD, .inl (cL, 256, .inr (.inl fD)))] H := hP
                have hD : va_D A [(m0, .inr (8, [.ref mH, .int aM, .long aC, .int mM, .long mQ, .int oV, .int pL, .int lI, .int sW, .int dP, .int sT, .long aT, .int 1, .int iW, .ref mI, .ref mJ, .ref mS, .ref mD, .int iH, .int aE, .int mN, .long sZ, .ref mX, .int tS, .int tA, .int tW, .ref mA, .ref mB, .ref mW, .ref mL, .int lS])), (mH, .inl (cI, 512, .inl fH)), (mI, .inl (cL, 1200, .inr (.inl fI))), (mJ, .inl (cI, 4, .inl (k4i j0 j1 j2 j3))), (mS, .inl (cI, 4, .inl (k4i s0 s1 s2 s3))), (mD, .inl (cL, 256, .inr (.inl fD)))] := hD
                try dsimp only at wr_11
                subst wr_11
                refine lv_if_eq (tgt := 198) hx hb dX8_copies_180 (by decide) (fun c_180_11 => ?_) (fun c_180_11 => ?_)
                · have t_180_11 := c_180_11
                  try simp only [kb_eq0, kb_ne0, lg_cmp_lt, lg_cmp_le, lg_cmp_gt, lg_cmp_ge, lg_cmp_eq] at t_180_11
                  try simp only [Int32.lt_iff_toInt_lt, Int32.le_iff_toInt_le, ← Int32.toInt_inj, Int64.lt_iff_toInt_lt, Int64.le_iff_toInt_le, ← Int64.toInt_inj, Int32.toInt_toInt64, Int32.reduceToInt, Int64.reduceToInt] at t_180_11
                  refine lv_ldc2 (v := (-9)) hx hb hown (hts (.constantLong RX8 107 (-9)) (List.mem_of_getElem? (i := 8) rfl)) dX8_copies_198 ?_
                  refine lv_lstore (lv' := [(4, .long (-9)), (3, .int s0), (2, .int 0), (1, .int 0), (0, .ref m0)]) hx hb dX8_copies_201 hl (by decide) rfl (fun ls hl => ?_)
                  refine lv_lload hx hb dX8_copies_203 (lv_at hl 0 rfl) ?_
                  refine lv_ldc2 (v := (-9)) hx hb hown (hts (.constantLong RX8 107 (-9)) (List.mem_of_getElem? (i := 8) rfl)) dX8_copies_205 ?_
                  refine W.lcmp hx hb dX8_copies_208 ?_
                  refine lv_topi (fun x_13 ex_13 => ?_)
                  obtain rfl : x_13 = 0 := ex_13.trans (by decide)
                  refine lv_if_eq (tgt := 230) hx hb dX8_copies_209 (by decide) (fun c_209_13 => ?_) (fun c_209_13 => ?_)
                  · have t_209_13 := c_209_13
                    try simp only [kb_eq0, kb_ne0, lg_cmp_lt, lg_cmp_le, lg_cmp_gt, lg_cmp_ge, lg_cmp_eq] at t_209_13
                    try simp only [Int32.lt_iff_toInt_lt, Int32.le_iff_toInt_le, ← Int32.toInt_inj, Int64.lt_iff_toInt_lt, Int64.le_iff_toInt_le, ← Int64.toInt_inj, Int32.toInt_toInt64, Int32.reduceToInt, Int64.reduceToInt] at t_209_13
                    refine lv_lload hx hb dX8_copies_230 (lv_at hl 0 rfl) ?_
                    refine lv_lconst (v := 0) hx hb dX8_copies_232 (by decide) ?_
                    refine W.lcmp hx hb dX8_copies_233 ?_
                    refine lv_topi (fun x_15 ex_15 => ?_)
                    obtain rfl : x_15 = (-1) := ex_15.trans (by decide)
                    refine lv_if_lt (tgt := 246) hx hb dX8_copies_234 (by decide) (fun c_234_15 => ?_) (fun c_234_15 => ?_)
                    · have t_234_15 := c_234_15
                      try simp only [kb_eq0, kb_ne0, lg_cmp_lt, lg_cmp_le, lg_cmp_gt, lg_cmp_ge, lg_cmp_eq] at t_234_15
                      try simp only [Int32.lt_iff_toInt_lt, Int32.le_iff_toInt_le, ← Int32.toInt_inj, Int64.lt_iff_toInt_lt, Int64.le_iff_toInt_le, ← Int64.toInt_inj, Int32.toInt_toInt64, Int32.reduceToInt, Int64.reduceToInt] at t_234_15
                      refine lv_aload_n hx hb dX8_copies_246 rfl (lv_at hl 4 rfl) ?_
                      refine lv_iconst (v := 0) hx hb dX8_copies_247 (by decide) ?_
                      refine va_put (D := D) (ci := 8) (v := .int 0) (ty := .int) (C := RX8) (T := TX8) (N := 31) hx hb hts iX8_copies_X8 tyX8 tyX8_ok nmX8 hown hK hP hD hS 0 rfl rfl 12 (by decide) (hts (.fieldLink RX8 43 "TapeCalculatorModel" "chosen" "I") (List.mem_of_getElem? (i := 1) rfl)) (fun _ h9 => h9) rfl (by decide +kernel) rfl rfl (Nat.le_of_ble_eq_true rfl) dX8_copies_248 (fun H locs hP hD hS => ?_)
                      have hP : va_P D vwCl [(m0, .inr (8, [.ref mH, .int aM, .long aC, .int mM, .long mQ, .int oV, .int pL, .int lI, .int sW, .int dP, .int sT, .long aT, .int 0, .int iW, .ref mI, .ref mJ, .ref mS, .ref mD, .int iH, .int aE, .int mN, .long sZ, .ref mX, .int tS, .int tA, .int tW, .ref mA, .ref mB, .ref mW, .ref mL, .int lS])), (mH, .inl (cI, 512, .inl fH)), (mI, .inl (cL, 1200, .inr (.inl fI))), (mJ, .inl (cI, 4, .inl (k4i j0 j1 j2 j3))), (mS, .inl (cI, 4, .inl (k4i s0 s1 s2 s3))), (mD, .inl (cL, 256, .inr (.inl fD)))] H := hP
                      have hD : va_D A [(m0, .inr (8, [.ref mH, .int aM, .long aC, .int mM, .long mQ, .int oV, .int pL, .int lI, .int sW, .int dP, .int sT, .long aT, .int 0, .int iW, .ref mI, .ref mJ, .ref mS, .ref mD, .int iH, .int aE, .int mN, .long sZ, .ref mX, .int tS, .int tA, .int tW, .ref mA, .ref mB, .ref mW, .ref mL, .int lS])), (mH, .inl (cI, 512, .inl fH)), (mI, .inl (cL, 1200, .inr (.inl fI))), (mJ, .inl (cI, 4, .inl (k4i j0 j1 j2 j3))), (mS, .inl (cI, 4, .inl (k4i s0 s1 s2 s3))), (mD, .inl (cL, 256, .inr (.inl fD)))] := hD
                      refine lv_aload_n hx hb dX8_copies_251 rfl (lv_at hl 4 rfl) ?_
                      refine lv_lload hx hb dX8_copies_252 (lv_at hl 0 rfl) ?_
                      refine lv_ldc2 (v := (-2)) hx hb hown (hts (.constantLong RX8 111 (-2)) (List.mem_of_getElem? (i := 9) rfl)) dX8_copies_254 ?_
                      refine W.lcmp hx hb dX8_copies_257 ?_
                      refine lv_topi (fun x_17 ex_17 => ?_)
                      obtain rfl : x_17 = (-1) := ex_17.trans (by decide)
                      refine lv_if_ne (tgt := 265) hx hb dX8_copies_258 (by decide) (fun c_258_17 => ?_) (fun c_258_17 => ?_)
                      · have t_258_17 := c_258_17
                        try simp only [kb_eq0, kb_ne0, lg_cmp_lt, lg_cmp_le, lg_cmp_gt, lg_cmp_ge, lg_cmp_eq] at t_258_17
                        try simp only [Int32.lt_iff_toInt_lt, Int32.le_iff_toInt_le, ← Int32.toInt_inj, Int64.lt_iff_toInt_lt, Int64.le_iff_toInt_le, ← Int64.toInt_inj, Int32.toInt_toInt64, Int32.reduceToInt, Int64.reduceToInt] at t_258_17
                        refine lv_iconst (v := 1) hx hb dX8_copies_265 (by decide) ?_
                        refine kCallVd (wr := [(mH, .inl (cI, 512, .inl fH)), (mI, .inl (cL, 1200, .inr (.inl fI))), (mJ, .inl (cI, 4, .inl (k4i j0 j1 j2 j3))), (mS, .inl (cI, 4, .inl (k4i s0 s1 s2 s3))), (mD, .inl (cL, 256, .inr (.inl fD)))]) (va_runV (As := [.int 1]) (rest := []) ⟨hx, hb, hml, hown, hts⟩ (q_go l D cI cL cB cZ cT _ m0 mH mI mJ mS mD mX mA mB mW mL aM aC mM mQ oV pL lI sW dP sT aT 0 iW iH aE mN sZ tS tA tW lS 1) (cwV 1 hts gX8_copies_X8_go rfl rfl rfl (by decide +kernel) ⟨Nat.le_of_ble_eq_true rfl, Nat.le_of_ble_eq_true rfl⟩) (kPreV hG hP hD [0] rfl (by decide) 0 8 rfl rfl rfl) rfl rfl hl.1 rfl (lv_room (Nat.le_of_ble_eq_true rfl)) dX8_copies_266 ⟨Nat.le_of_ble_eq_true rfl, Nat.le_of_ble_eq_true rfl⟩) hA hP hD hS [0] [1, 2, 3, 4, 5] rfl rfl (by decide) (by decide) (fun _ u_r_19 H locs wr_19 hP hD hS => ?_)
                        have hP : va_P D vwCl [(mH, .inl (cI, 512, .inl fH)), (mI, .inl (cL, 1200, .inr (.inl fI))), (mJ, .inl (cI, 4, .inl (k4i j0 j1 j2 j3))), (mS, .inl (cI, 4, .inl (k4i s0 s1 s2 s3))), (mD, .inl (cL, 256, .inr (.inl fD))), (m0, .inr (8, [.ref mH, .int aM, .long aC, .int mM, .long mQ, .int oV, .int u_r_19, .int lI, .int sW, .int dP, .int sT, .long aT, .int 0, .int iW, .ref mI, .ref mJ, .ref mS, .ref mD, .int iH, .int aE, .int mN, .long sZ, .ref mX, .int tS, .int tA, .int tW, .ref mA, .ref mB, .ref mW, .ref mL, .int lS]))] H := hP
                        have hD : va_D A [(mH, .inl (cI, 512, .inl fH)), (mI, .inl (cL, 1200, .inr (.inl fI))), (mJ, .inl (cI, 4, .inl (k4i j0 j1 j2 j3))), (mS, .inl (cI, 4, .inl (k4i s0 s1 s2 s3))), (mD, .inl (cL, 256, .inr (.inl fD))), (m0, .inr (8, [.ref mH, .int aM, .long aC, .int mM, .long mQ, .int oV, .int u_r_19, .int lI, .int sW, .int dP, .int sT, .long aT, .int 0, .int iW, .ref mI, .ref mJ, .ref mS, .ref mD, .int iH, .int aE, .int mN, .long sZ, .ref mX, .int tS, .int tA, .int tW, .ref mA, .ref mB, .ref mW, .ref mL, .int lS]))] := hD
                        try dsimp only at wr_19
                        try simp only [Int32.reduceToInt, Int64.reduceToInt] at wr_19
                        refine lv_iconst (v := 0) hx hb dX8_copies_269 (by decide) ?_
                        refine kIret (u := (u_r_19, dP, 0, iW, fH, fD, fI, j0, j1, j2, j3, s0, s1, s2, s3)) hx hb hr rfl hlocks hS dX8_copies_270 ?_ (hP.sub [5, 0, 1, 2, 3, 4] rfl) (hD.sub [5, 0, 1, 2, 3, 4] (by decide) rfl)
                        try dsimp only
                        try simp only [Int32.reduceToInt, Int64.reduceToInt, true_or, or_true, true_and, and_true]
                        repeat' apply And.intro
                        all_goals first | assumption | omega
                      · exact absurd c_258_17 (by decide)
                    · exact absurd (by decide) c_234_15
                  · exact absurd (by decide) c_209_13
                · have t_180_11 := c_180_11
                  try simp only [kb_eq0, kb_ne0, lg_cmp_lt, lg_cmp_le, lg_cmp_gt, lg_cmp_ge, lg_cmp_eq] at t_180_11
                  try simp only [Int32.lt_iff_toInt_lt, Int32.le_iff_toInt_le, ← Int32.toInt_inj, Int64.lt_iff_toInt_lt, Int64.le_iff_toInt_le, ← Int64.toInt_inj, Int32.toInt_toInt64, Int32.reduceToInt, Int64.reduceToInt] at t_180_11
                  refine lv_aload_n hx hb dX8_copies_183 rfl (lv_at hl 3 rfl) ?_
                  refine va_get (D := D) (ci := 8) (v := .ref mI) (C := RX8) (T := TX8) (N := 31) hx hb hts iX8_copies_X8 hown hK hP 0 rfl rfl 14 (by decide) (hts (.fieldLink RX8 13 "TapeCalculatorModel" "item" "[J") (List.mem_of_getElem? (i := 7) rfl)) (fun _ h9 => h9) rfl dX8_copies_184 ?_
                  refine lv_sipush (v := 300) hx hb dX8_copies_187 (by decide) ?_
                  refine lv_iload_n hx hb dX8_copies_190 rfl (lv_at hl 1 rfl) ?_
                  refine lv_imul hx hb dX8_copies_191 ?_
                  refine lv_topi (fun x_20 ex_20 => ?_)
                  obtain rfl : x_20 = 0 := ex_20.trans (by decide)
                  refine lv_iload_n hx hb dX8_copies_192 rfl (lv_at hl 0 rfl) ?_
                  refine lv_iadd hx hb dX8_copies_193 ?_
                  refine va_lald hx hb hK hP 2 1 rfl rfl (vp_in_iff.mpr (by have hx9 := k_addg (a := 0) (b := s0) (by decide) (by omega); simp only [Int32.reduceToInt] at hx9; omega)) dX8_copies_194 ?_
                  refine lv_goto (tgt := 201) hx hb dX8_copies_195 (by decide) ?_
                  refine lv_topl (fun x_21 ex_21 => ?_)
                  refine lv_lstore (lv' := [(4, .long x_21), (3, .int s0), (2, .int 0), (1, .int 0), (0, .ref m0)]) hx hb dX8_copies_201 hl (by decide) rfl (fun ls hl => ?_)
                  refine lv_lload hx hb dX8_copies_203 (lv_at hl 0 rfl) ?_
                  refine lv_ldc2 (v := (-9)) hx hb hown (hts (.constantLong RX8 107 (-9)) (List.mem_of_getElem? (i := 8) rfl)) dX8_copies_205 ?_
                  refine W.lcmp hx hb dX8_copies_208 ?_
                  refine lv_if_eq (tgt := 230) hx hb dX8_copies_209 (by decide) (fun c_209_21 => ?_) (fun c_209_21 => ?_)
                  · have t_209_21 := c_209_21
                    try simp only [kb_eq0, kb_ne0, lg_cmp_lt, lg_cmp_le, lg_cmp_gt, lg_cmp_ge, lg_cmp_eq] at t_209_21
                    try simp only [Int32.lt_iff_toInt_lt, Int32.le_iff_toInt_le, ← Int32.toInt_inj, Int64.lt_iff_toInt_lt, Int64.le_iff_toInt_le, ← Int64.toInt_inj, Int32.toInt_toInt64, Int32.reduceToInt, Int64.reduceToInt] at t_209_21
                    refine lv_lload hx hb dX8_copies_230 (lv_at hl 0 rfl) ?_
                    refine lv_lconst (v := 0) hx hb dX8_copies_232 (by decide) ?_
                    refine W.lcmp hx hb dX8_copies_233 ?_
                    refine lv_if_lt (tgt := 246) hx hb dX8_copies_234 (by decide) (fun c_234_22 => ?_) (fun c_234_22 => ?_)
                    · have t_234_22 := c_234_22
                      try simp only [kb_eq0, kb_ne0, lg_cmp_lt, lg_cmp_le, lg_cmp_gt, lg_cmp_ge, lg_cmp_eq] at t_234_22
                      try simp only [Int32.lt_iff_toInt_lt, Int32.le_iff_toInt_le, ← Int32.toInt_inj, Int64.lt_iff_toInt_lt, Int64.le_iff_toInt_le, ← Int64.toInt_inj, Int32.toInt_toInt64, Int32.reduceToInt, Int64.reduceToInt] at t_234_22
                      refine lv_aload_n hx hb dX8_copies_246 rfl (lv_at hl 4 rfl) ?_
                      refine lv_iconst (v := 0) hx hb dX8_copies_247 (by decide) ?_
                      refine va_put (D := D) (ci := 8) (v := .int 0) (ty := .int) (C := RX8) (T := TX8) (N := 31) hx hb hts iX8_copies_X8 tyX8 tyX8_ok nmX8 hown hK hP hD hS 0 rfl rfl 12 (by decide) (hts (.fieldLink RX8 43 "TapeCalculatorModel" "chosen" "I") (List.mem_of_getElem? (i := 1) rfl)) (fun _ h9 => h9) rfl (by decide +kernel) rfl rfl (Nat.le_of_ble_eq_true rfl) dX8_copies_248 (fun H locs hP hD hS => ?_)
                      have hP : va_P D vwCl [(m0, .inr (8, [.ref mH, .int aM, .long aC, .int mM, .long mQ, .int oV, .int pL, .int lI, .int sW, .int dP, .int sT, .long aT, .int 0, .int iW, .ref mI, .ref mJ, .ref mS, .ref mD, .int iH, .int aE, .int mN, .long sZ, .ref mX, .int tS, .int tA, .int tW, .ref mA, .ref mB, .ref mW, .ref mL, .int lS])), (mH, .inl (cI, 512, .inl fH)), (mI, .inl (cL, 1200, .inr (.inl fI))), (mJ, .inl (cI, 4, .inl (k4i j0 j1 j2 j3))), (mS, .inl (cI, 4, .inl (k4i s0 s1 s2 s3))), (mD, .inl (cL, 256, .inr (.inl fD)))] H := hP
                      have hD : va_D A [(m0, .inr (8, [.ref mH, .int aM, .long aC, .int mM, .long mQ, .int oV, .int pL, .int lI, .int sW, .int dP, .int sT, .long aT, .int 0, .int iW, .ref mI, .ref mJ, .ref mS, .ref mD, .int iH, .int aE, .int mN, .long sZ, .ref mX, .int tS, .int tA, .int tW, .ref mA, .ref mB, .ref mW, .ref mL, .int lS])), (mH, .inl (cI, 512, .inl fH)), (mI, .inl (cL, 1200, .inr (.inl fI))), (mJ, .inl (cI, 4, .inl (k4i j0 j1 j2 j3))), (mS, .inl (cI, 4, .inl (k4i s0 s1 s2 s3))), (mD, .inl (cL, 256, .inr (.inl fD)))] := hD
                      refine lv_aload_n hx hb dX8_copies_251 rfl (lv_at hl 4 rfl) ?_
                      refine lv_lload hx hb dX8_copies_252 (lv_at hl 0 rfl) ?_
                      refine lv_ldc2 (v := (-2)) hx hb hown (hts (.constantLong RX8 111 (-2)) (List.mem_of_getElem? (i := 9) rfl)) dX8_copies_254 ?_
                      refine W.lcmp hx hb dX8_copies_257 ?_
                      refine lv_if_ne (tgt := 265) hx hb dX8_copies_258 (by decide) (fun c_258_23 => ?_) (fun c_258_23 => ?_)
                      · have t_258_23 := c_258_23
                        try simp only [kb_eq0, kb_ne0, lg_cmp_lt, lg_cmp_le, lg_cmp_gt, lg_cmp_ge, lg_cmp_eq] at t_258_23
                        try simp only [Int32.lt_iff_toInt_lt, Int32.le_iff_toInt_le, ← Int32.toInt_inj, Int64.lt_iff_toInt_lt, Int64.le_iff_toInt_le, ← Int64.toInt_inj, Int32.toInt_toInt64, Int32.reduceToInt, Int64.reduceToInt] at t_258_23
                        refine lv_iconst (v := 1) hx hb dX8_copies_265 (by decide) ?_
                        refine kCallVd (wr := [(mH, .inl (cI, 512, .inl fH)), (mI, .inl (cL, 1200, .inr (.inl fI))), (mJ, .inl (cI, 4, .inl (k4i j0 j1 j2 j3))), (mS, .inl (cI, 4, .inl (k4i s0 s1 s2 s3))), (mD, .inl (cL, 256, .inr (.inl fD)))]) (va_runV (As := [.int 1]) (rest := []) ⟨hx, hb, hml, hown, hts⟩ (q_go l D cI cL cB cZ cT _ m0 mH mI mJ mS mD mX mA mB mW mL aM aC mM mQ oV pL lI sW dP sT aT 0 iW iH aE mN sZ tS tA tW lS 1) (cwV 1 hts gX8_copies_X8_go rfl rfl rfl (by decide +kernel) ⟨Nat.le_of_ble_eq_true rfl, Nat.le_of_ble_eq_true rfl⟩) (kPreV hG hP hD [0] rfl (by decide) 0 8 rfl rfl rfl) rfl rfl hl.1 rfl (lv_room (Nat.le_of_ble_eq_true rfl)) dX8_copies_266 ⟨Nat.le_of_ble_eq_true rfl, Nat.le_of_ble_eq_true rfl⟩) hA hP hD hS [0] [1, 2, 3, 4, 5] rfl rfl (by decide) (by decide) (fun _ u_r_25 H locs wr_25 hP hD hS => ?_)
                        have hP : va_P D vwCl [(mH, .inl (cI, 512, .inl fH)), (mI, .inl (cL, 1200, .inr (.inl fI))), (mJ, .inl (cI, 4, .inl (k4i j0 j1 j2 j3))), (mS, .inl (cI, 4, .inl (k4i s0 s1 s2 s3))), (mD, .inl (cL, 256, .inr (.inl fD))), (m0, .inr (8, [.ref mH, .int aM, .long aC, .int mM, .long mQ, .int oV, .int u_r_25, .int lI, .int sW, .int dP, .int sT, .long aT, .int 0, .int iW, .ref mI, .ref mJ, .ref mS, .ref mD, .int iH, .int aE, .int mN, .long sZ, .ref mX, .int tS, .int tA, .int tW, .ref mA, .ref mB, .ref mW, .ref mL, .int lS]))] H := hP
                        have hD : va_D A [(mH, .inl (cI, 512, .inl fH)), (mI, .inl (cL, 1200, .inr (.inl fI))), (mJ, .inl (cI, 4, .inl (k4i j0 j1 j2 j3))), (mS, .inl (cI, 4, .inl (k4i s0 s1 s2 s3))), (mD, .inl (cL, 256, .inr (.inl fD))), (m0, .inr (8, [.ref mH, .int aM, .long aC, .int mM, .long mQ, .int oV, .int u_r_25, .int lI, .int sW, .int dP, .int sT, .long aT, .int 0, .int iW, .ref mI, .ref mJ, .ref mS, .ref mD, .int iH, .int aE, .int mN, .long sZ, .ref mX, .int tS, .int tA, .int tW, .ref mA, .ref mB, .ref mW, .ref mL, .int lS]))] := hD
                        try dsimp only at wr_25
                        try simp only [Int32.reduceToInt, Int64.reduceToInt] at wr_25
                        refine lv_iconst (v := 0) hx hb dX8_copies_269 (by decide) ?_
                        refine kIret (u := (u_r_25, dP, 0, iW, fH, fD, fI, j0, j1, j2, j3, s0, s1, s2, s3)) hx hb hr rfl hlocks hS dX8_copies_270 ?_ (hP.sub [5, 0, 1, 2, 3, 4] rfl) (hD.sub [5, 0, 1, 2, 3, 4] (by decide) rfl)
                        try dsimp only
                        try simp only [Int32.reduceToInt, Int64.reduceToInt, true_or, or_true, true_and, and_true]
                        try rw [← ex_21] at hk8
                        repeat' apply And.intro
                        all_goals first | assumption | omega
                      · have t_258_23 := c_258_23
                        try simp only [kb_eq0, kb_ne0, lg_cmp_lt, lg_cmp_le, lg_cmp_gt, lg_cmp_ge, lg_cmp_eq] at t_258_23
                        try simp only [Int32.lt_iff_toInt_lt, Int32.le_iff_toInt_le, ← Int32.toInt_inj, Int64.lt_iff_toInt_lt, Int64.le_iff_toInt_le, ← Int64.toInt_inj, Int32.toInt_toInt64, Int32.reduceToInt, Int64.reduceToInt] at t_258_23
                        refine lv_iconst (v := 2) hx hb dX8_copies_261 (by decide) ?_
                        refine lv_goto (tgt := 266) hx hb dX8_copies_262 (by decide) ?_
                        refine kCallVd (wr := [(mH, .inl (cI, 512, .inl fH)), (mI, .inl (cL, 1200, .inr (.inl fI))), (mJ, .inl (cI, 4, .inl (k4i j0 j1 j2 j3))), (mS, .inl (cI, 4, .inl (k4i s0 s1 s2 s3))), (mD, .inl (cL, 256, .inr (.inl fD)))]) (va_runV (As := [.int 2]) (rest := []) ⟨hx, hb, hml, hown, hts⟩ (q_go l D cI cL cB cZ cT _ m0 mH mI mJ mS mD mX mA mB mW mL aM aC mM mQ oV pL lI sW dP sT aT 0 iW iH aE mN sZ tS tA tW lS 2) (cwV 1 hts gX8_copies_X8_go rfl rfl rfl (by decide +kernel) ⟨Nat.le_of_ble_eq_true rfl, Nat.le_of_ble_eq_true rfl⟩) (kPreV hG hP hD [0] rfl (by decide) 0 8 rfl rfl rfl) rfl rfl hl.1 rfl (lv_room (Nat.le_of_ble_eq_true rfl)) dX8_copies_266 ⟨Nat.le_of_ble_eq_true rfl, Nat.le_of_ble_eq_true rfl⟩) hA hP hD hS [0] [1, 2, 3, 4, 5] rfl rfl (by decide) (by decide) (fun _ u_r_26 H locs wr_26 hP hD hS => ?_)
                        have hP : va_P D vwCl [(mH, .inl (cI, 512, .inl fH)), (mI, .inl (cL, 1200, .inr (.inl fI))), (mJ, .inl (cI, 4, .inl (k4i j0 j1 j2 j3))), (mS, .inl (cI, 4, .inl (k4i s0 s1 s2 s3))), (mD, .inl (cL, 256, .inr (.inl fD))), (m0, .inr (8, [.ref mH, .int aM, .long aC, .int mM, .long mQ, .int oV, .int u_r_26, .int lI, .int sW, .int dP, .int sT, .long aT, .int 0, .int iW, .ref mI, .ref mJ, .ref mS, .ref mD, .int iH, .int aE, .int mN, .long sZ, .ref mX, .int tS, .int tA, .int tW, .ref mA, .ref mB, .ref mW, .ref mL, .int lS]))] H := hP
                        have hD : va_D A [(mH, .inl (cI, 512, .inl fH)), (mI, .inl (cL, 1200, .inr (.inl fI))), (mJ, .inl (cI, 4, .inl (k4i j0 j1 j2 j3))), (mS, .inl (cI, 4, .inl (k4i s0 s1 s2 s3))), (mD, .inl (cL, 256, .inr (.inl fD))), (m0, .inr (8, [.ref mH, .int aM, .long aC, .int mM, .long mQ, .int oV, .int u_r_26, .int lI, .int sW, .int dP, .int sT, .long aT, .int 0, .int iW, .ref mI, .ref mJ, .ref mS, .ref mD, .int iH, .int aE, .int mN, .long sZ, .ref mX, .int tS, .int tA, .int tW, .ref mA, .ref mB, .ref mW, .ref mL, .int lS]))] := hD
                        try dsimp only at wr_26
                        try simp only [Int32.reduceToInt, Int64.reduceToInt] at wr_26
                        refine lv_iconst (v := 0) hx hb dX8_copies_269 (by decide) ?_
                        refine kIret (u := (u_r_26, dP, 0, iW, fH, fD, fI, j0, j1, j2, j3, s0, s1, s2, s3)) hx hb hr rfl hlocks hS dX8_copies_270 ?_ (hP.sub [5, 0, 1, 2, 3, 4] rfl) (hD.sub [5, 0, 1, 2, 3, 4] (by decide) rfl)
                        try dsimp only
                        try simp only [Int32.reduceToInt, Int64.reduceToInt, true_or, or_true, true_and, and_true]
                        try rw [← ex_21] at hk8
                        repeat' apply And.intro
                        all_goals first | assumption | omega
                    · have t_234_22 := c_234_22
                      try simp only [kb_eq0, kb_ne0, lg_cmp_lt, lg_cmp_le, lg_cmp_gt, lg_cmp_ge, lg_cmp_eq] at t_234_22
                      try simp only [Int32.lt_iff_toInt_lt, Int32.le_iff_toInt_le, ← Int32.toInt_inj, Int64.lt_iff_toInt_lt, Int64.le_iff_toInt_le, ← Int64.toInt_inj, Int32.toInt_toInt64, Int32.reduceToInt, Int64.reduceToInt] at t_234_22
                      refine lv_aload_n hx hb dX8_copies_237 rfl (lv_at hl 4 rfl) ?_
                      refine lv_lload hx hb dX8_copies_238 (lv_at hl 0 rfl) ?_
                      refine kCallVd (wr := [(mI, .inl (cL, 1200, .inr (.inl fI))), (mJ, .inl (cI, 4, .inl (k4i j0 j1 j2 j3))), (mS, .inl (cI, 4, .inl (k4i s0 s1 s2 s3))), (mD, .inl (cL, 256, .inr (.inl fD)))]) (va_runV (As := [.long x_21]) (rest := []) ⟨hx, hb, hml, hown, hts⟩ (q_store l D cI cL cB cZ cT _ m0 mH mI mJ mS mD mX mA mB mW mL aM aC mM mQ oV pL lI sW dP sT aT 1 iW iH aE mN sZ tS tA tW lS fH x_21 (by omega)) (cwV 1 hts gX8_copies_X8_store rfl rfl rfl (by decide +kernel) ⟨Nat.le_of_ble_eq_true rfl, Nat.le_of_ble_eq_true rfl⟩) (kPreV hG hP hD [0, 1] rfl (by decide) 0 8 rfl rfl rfl) rfl rfl hl.1 rfl (lv_room (Nat.le_of_ble_eq_true rfl)) dX8_copies_240 ⟨Nat.le_of_ble_eq_true rfl, Nat.le_of_ble_eq_true rfl⟩) hA hP hD hS [0, 1] [2, 3, 4, 5] rfl rfl (by decide) (by decide) (fun _ u_r_27 H locs wr_27 hP hD hS => ?_)
                      have hP : va_P D vwCl [(mI, .inl (cL, 1200, .inr (.inl fI))), (mJ, .inl (cI, 4, .inl (k4i j0 j1 j2 j3))), (mS, .inl (cI, 4, .inl (k4i s0 s1 s2 s3))), (mD, .inl (cL, 256, .inr (.inl fD))), (m0, .inr (8, [.ref mH, .int aM, .long aC, .int mM, .long mQ, .int oV, .int pL, .int lI, .int sW, .int dP, .int sT, .long aT, .int 1, .int iW, .ref mI, .ref mJ, .ref mS, .ref mD, .int iH, .int aE, .int mN, .long sZ, .ref mX, .int tS, .int tA, .int tW, .ref mA, .ref mB, .ref mW, .ref mL, .int lS])), (mH, .inl (cI, 512, .inl u_r_27))] H := hP
                      have hD : va_D A [(mI, .inl (cL, 1200, .inr (.inl fI))), (mJ, .inl (cI, 4, .inl (k4i j0 j1 j2 j3))), (mS, .inl (cI, 4, .inl (k4i s0 s1 s2 s3))), (mD, .inl (cL, 256, .inr (.inl fD))), (m0, .inr (8, [.ref mH, .int aM, .long aC, .int mM, .long mQ, .int oV, .int pL, .int lI, .int sW, .int dP, .int sT, .long aT, .int 1, .int iW, .ref mI, .ref mJ, .ref mS, .ref mD, .int iH, .int aE, .int mN, .long sZ, .ref mX, .int tS, .int tA, .int tW, .ref mA, .ref mB, .ref mW, .ref mL, .int lS])), (mH, .inl (cI, 512, .inl u_r_27))] := hD
                      try dsimp only at wr_27
                      try simp only [Int32.reduceToInt, Int64.reduceToInt] at wr_27
                      refine lv_goto (tgt := 269) hx hb dX8_copies_243 (by decide) ?_
                      refine lv_iconst (v := 0) hx hb dX8_copies_269 (by decide) ?_
                      refine kIret (u := (pL, dP, 1, iW, u_r_27, fD, fI, j0, j1, j2, j3, s0, s1, s2, s3)) hx hb hr rfl hlocks hS dX8_copies_270 ?_ (hP.sub [4, 5, 0, 1, 2, 3] rfl) (hD.sub [4, 5, 0, 1, 2, 3] (by decide) rfl)
                      try dsimp only
                      try simp only [Int32.reduceToInt, Int64.reduceToInt, true_or, or_true, true_and, and_true]
                      try rw [← ex_21] at hk8
                      repeat' apply And.intro
                      all_goals first | assumption | omega
                  · have t_209_21 := c_209_21
                    try simp only [kb_eq0, kb_ne0, lg_cmp_lt, lg_cmp_le, lg_cmp_gt, lg_cmp_ge, lg_cmp_eq] at t_209_21
                    try simp only [Int32.lt_iff_toInt_lt, Int32.le_iff_toInt_le, ← Int32.toInt_inj, Int64.lt_iff_toInt_lt, Int64.le_iff_toInt_le, ← Int64.toInt_inj, Int32.toInt_toInt64, Int32.reduceToInt, Int64.reduceToInt] at t_209_21
                    refine lv_aload_n hx hb dX8_copies_212 rfl (lv_at hl 4 rfl) ?_
                    refine va_get (D := D) (ci := 8) (v := .ref mS) (C := RX8) (T := TX8) (N := 31) hx hb hts iX8_copies_X8 hown hK hP 0 rfl rfl 16 (by decide) (hts (.fieldLink RX8 20 "TapeCalculatorModel" "stands" "[I") (List.mem_of_getElem? (i := 5) rfl)) (fun _ h9 => h9) rfl dX8_copies_213 ?_
                    refine lv_iload_n hx hb dX8_copies_216 rfl (lv_at hl 2 rfl) ?_
                    refine lv_dup2_11 hx hb dX8_copies_217 rfl rfl ?_
                    refine va_iald hx hb hK hP 4 0 rfl rfl (vp_in_iff.mpr (by decide)) dX8_copies_218 ?_
                    refine lv_topi (fun x_28 ex_28 => ?_)
                    obtain rfl : s0 = x_28 := ex_28.symm
                    refine lv_iload_n hx hb dX8_copies_219 rfl (lv_at hl 3 rfl) ?_
                    refine lv_if_eq (tgt := 227) hx hb dX8_copies_220 (by decide) (fun c_220_28 => ?_) (fun c_220_28 => ?_)
                    · have t_220_28 := c_220_28
                      try simp only [kb_eq0, kb_ne0, lg_cmp_lt, lg_cmp_le, lg_cmp_gt, lg_cmp_ge, lg_cmp_eq] at t_220_28
                      try simp only [Int32.lt_iff_toInt_lt, Int32.le_iff_toInt_le, ← Int32.toInt_inj, Int64.lt_iff_toInt_lt, Int64.le_iff_toInt_le, ← Int64.toInt_inj, Int32.toInt_toInt64, Int32.reduceToInt, Int64.reduceToInt] at t_220_28
                      refine lv_iconst (v := 1) hx hb dX8_copies_227 (by decide) ?_
                      refine lv_iadd hx hb dX8_copies_228 ?_
                      refine va_iast hx hb hK hP hD hS 4 0 rfl rfl (vp_in_iff.mpr (by decide)) dX8_copies_229 (fun H locs hP hD hS => ?_)
                      rw [k4i_0] at hP hD
                      have hP : va_P D vwCl [(m0, .inr (8, [.ref mH, .int aM, .long aC, .int mM, .long mQ, .int oV, .int pL, .int lI, .int sW, .int dP, .int sT, .long aT, .int 1, .int iW, .ref mI, .ref mJ, .ref mS, .ref mD, .int iH, .int aE, .int mN, .long sZ, .ref mX, .int tS, .int tA, .int tW, .ref mA, .ref mB, .ref mW, .ref mL, .int lS])), (mH, .inl (cI, 512, .inl fH)), (mI, .inl (cL, 1200, .inr (.inl fI))), (mJ, .inl (cI, 4, .inl (k4i j0 j1 j2 j3))), (mS, .inl (cI, 4, .inl (k4i (s0 + 1) s1 s2 s3))), (mD, .inl (cL, 256, .inr (.inl fD)))] H := hP
                      have hD : va_D A [(m0, .inr (8, [.ref mH, .int aM, .long aC, .int mM, .long mQ, .int oV, .int pL, .int lI, .int sW, .int dP, .int sT, .long aT, .int 1, .int iW, .ref mI, .ref mJ, .ref mS, .ref mD, .int iH, .int aE, .int mN, .long sZ, .ref mX, .int tS, .int tA, .int tW, .ref mA, .ref mB, .ref mW, .ref mL, .int lS])), (mH, .inl (cI, 512, .inl fH)), (mI, .inl (cL, 1200, .inr (.inl fI))), (mJ, .inl (cI, 4, .inl (k4i j0 j1 j2 j3))), (mS, .inl (cI, 4, .inl (k4i (s0 + 1) s1 s2 s3))), (mD, .inl (cL, 256, .inr (.inl fD)))] := hD
                      refine lv_lload hx hb dX8_copies_230 (lv_at hl 0 rfl) ?_
                      refine lv_lconst (v := 0) hx hb dX8_copies_232 (by decide) ?_
                      refine W.lcmp hx hb dX8_copies_233 ?_
                      refine lv_if_lt (tgt := 246) hx hb dX8_copies_234 (by decide) (fun c_234_29 => ?_) (fun c_234_29 => ?_)
                      · have t_234_29 := c_234_29
                        try simp only [kb_eq0, kb_ne0, lg_cmp_lt, lg_cmp_le, lg_cmp_gt, lg_cmp_ge, lg_cmp_eq] at t_234_29
                        try simp only [Int32.lt_iff_toInt_lt, Int32.le_iff_toInt_le, ← Int32.toInt_inj, Int64.lt_iff_toInt_lt, Int64.le_iff_toInt_le, ← Int64.toInt_inj, Int32.toInt_toInt64, Int32.reduceToInt, Int64.reduceToInt] at t_234_29
                        refine lv_aload_n hx hb dX8_copies_246 rfl (lv_at hl 4 rfl) ?_
                        refine lv_iconst (v := 0) hx hb dX8_copies_247 (by decide) ?_
                        refine va_put (D := D) (ci := 8) (v := .int 0) (ty := .int) (C := RX8) (T := TX8) (N := 31) hx hb hts iX8_copies_X8 tyX8 tyX8_ok nmX8 hown hK hP hD hS 0 rfl rfl 12 (by decide) (hts (.fieldLink RX8 43 "TapeCalculatorModel" "chosen" "I") (List.mem_of_getElem? (i := 1) rfl)) (fun _ h9 => h9) rfl (by decide +kernel) rfl rfl (Nat.le_of_ble_eq_true rfl) dX8_copies_248 (fun H locs hP hD hS => ?_)
                        have hP : va_P D vwCl [(m0, .inr (8, [.ref mH, .int aM, .long aC, .int mM, .long mQ, .int oV, .int pL, .int lI, .int sW, .int dP, .int sT, .long aT, .int 0, .int iW, .ref mI, .ref mJ, .ref mS, .ref mD, .int iH, .int aE, .int mN, .long sZ, .ref mX, .int tS, .int tA, .int tW, .ref mA, .ref mB, .ref mW, .ref mL, .int lS])), (mH, .inl (cI, 512, .inl fH)), (mI, .inl (cL, 1200, .inr (.inl fI))), (mJ, .inl (cI, 4, .inl (k4i j0 j1 j2 j3))), (mS, .inl (cI, 4, .inl (k4i (s0 + 1) s1 s2 s3))), (mD, .inl (cL, 256, .inr (.inl fD)))] H := hP
                        have hD : va_D A [(m0, .inr (8, [.ref mH, .int aM, .long aC, .int mM, .long mQ, .int oV, .int pL, .int lI, .int sW, .int dP, .int sT, .long aT, .int 0, .int iW, .ref mI, .ref mJ, .ref mS, .ref mD, .int iH, .int aE, .int mN, .long sZ, .ref mX, .int tS, .int tA, .int tW, .ref mA, .ref mB, .ref mW, .ref mL, .int lS])), (mH, .inl (cI, 512, .inl fH)), (mI, .inl (cL, 1200, .inr (.inl fI))), (mJ, .inl (cI, 4, .inl (k4i j0 j1 j2 j3))), (mS, .inl (cI, 4, .inl (k4i (s0 + 1) s1 s2 s3))), (mD, .inl (cL, 256, .inr (.inl fD)))] := hD
                        refine lv_aload_n hx hb dX8_copies_251 rfl (lv_at hl 4 rfl) ?_
                        refine lv_lload hx hb dX8_copies_252 (lv_at hl 0 rfl) ?_
                        refine lv_ldc2 (v := (-2)) hx hb hown (hts (.constantLong RX8 111 (-2)) (List.mem_of_getElem? (i := 9) rfl)) dX8_copies_254 ?_
                        refine W.lcmp hx hb dX8_copies_257 ?_
                        refine lv_if_ne (tgt := 265) hx hb dX8_copies_258 (by decide) (fun c_258_30 => ?_) (fun c_258_30 => ?_)
                        · have t_258_30 := c_258_30
                          try simp only [kb_eq0, kb_ne0, lg_cmp_lt, lg_cmp_le, lg_cmp_gt, lg_cmp_ge, lg_cmp_eq] at t_258_30
                          try simp only [Int32.lt_iff_toInt_lt, Int32.le_iff_toInt_le, ← Int32.toInt_inj, Int64.lt_iff_toInt_lt, Int64.le_iff_toInt_le, ← Int64.toInt_inj, Int32.toInt_toInt64, Int32.reduceToInt, Int64.reduceToInt] at t_258_30
                          refine lv_iconst (v := 1) hx hb dX8_copies_265 (by decide) ?_
                          refine kCallVd (wr := [(mH, .inl (cI, 512, .inl fH)), (mI, .inl (cL, 1200, .inr (.inl fI))), (mJ, .inl (cI, 4, .inl (k4i j0 j1 j2 j3))), (mS, .inl (cI, 4, .inl (k4i (s0 + 1) s1 s2 s3))), (mD, .inl (cL, 256, .inr (.inl fD)))]) (va_runV (As := [.int 1]) (rest := []) ⟨hx, hb, hml, hown, hts⟩ (q_go l D cI cL cB cZ cT _ m0 mH mI mJ mS mD mX mA mB mW mL aM aC mM mQ oV pL lI sW dP sT aT 0 iW iH aE mN sZ tS tA tW lS 1) (cwV 1 hts gX8_copies_X8_go rfl rfl rfl (by decide +kernel) ⟨Nat.le_of_ble_eq_true rfl, Nat.le_of_ble_eq_true rfl⟩) (kPreV hG hP hD [0] rfl (by decide) 0 8 rfl rfl rfl) rfl rfl hl.1 rfl (lv_room (Nat.le_of_ble_eq_true rfl)) dX8_copies_266 ⟨Nat.le_of_ble_eq_true rfl, Nat.le_of_ble_eq_true rfl⟩) hA hP hD hS [0] [1, 2, 3, 4, 5] rfl rfl (by decide) (by decide) (fun _ u_r_32 H locs wr_32 hP hD hS => ?_)
                          have hP : va_P D vwCl [(mH, .inl (cI, 512, .inl fH)), (mI, .inl (cL, 1200, .inr (.inl fI))), (mJ, .inl (cI, 4, .inl (k4i j0 j1 j2 j3))), (mS, .inl (cI, 4, .inl (k4i (s0 + 1) s1 s2 s3))), (mD, .inl (cL, 256, .inr (.inl fD))), (m0, .inr (8, [.ref mH, .int aM, .long aC, .int mM, .long mQ, .int oV, .int u_r_32, .int lI, .int sW, .int dP, .int sT, .long aT, .int 0, .int iW, .ref mI, .ref mJ, .ref mS, .ref mD, .int iH, .int aE, .int mN, .long sZ, .ref mX, .int tS, .int tA, .int tW, .ref mA, .ref mB, .ref mW, .ref mL, .int lS]))] H := hP
                          have hD : va_D A [(mH, .inl (cI, 512, .inl fH)), (mI, .inl (cL, 1200, .inr (.inl fI))), (mJ, .inl (cI, 4, .inl (k4i j0 j1 j2 j3))), (mS, .inl (cI, 4, .inl (k4i (s0 + 1) s1 s2 s3))), (mD, .inl (cL, 256, .inr (.inl fD))), (m0, .inr (8, [.ref mH, .int aM, .long aC, .int mM, .long mQ, .int oV, .int u_r_32, .int lI, .int sW, .int dP, .int sT, .long aT, .int 0, .int iW, .ref mI, .ref mJ, .ref mS, .ref mD, .int iH, .int aE, .int mN, .long sZ, .ref mX, .int tS, .int tA, .int tW, .ref mA, .ref mB, .ref mW, .ref mL, .int lS]))] := hD
                          try dsimp only at wr_32
                          try simp only [Int32.reduceToInt, Int64.reduceToInt] at wr_32
                          refine lv_iconst (v := 0) hx hb dX8_copies_269 (by decide) ?_
                          refine kIret (u := (u_r_32, dP, 0, iW, fH, fD, fI, j0, j1, j2, j3, (s0 + 1), s1, s2, s3)) hx hb hr rfl hlocks hS dX8_copies_270 ?_ (hP.sub [5, 0, 1, 2, 3, 4] rfl) (hD.sub [5, 0, 1, 2, 3, 4] (by decide) rfl)
                          try dsimp only
                          try simp only [Int32.reduceToInt, Int64.reduceToInt, true_or, or_true, true_and, and_true]
                          try rw [← ex_21] at hk8
                          repeat' apply And.intro
                          all_goals first | assumption | omega
                        · have t_258_30 := c_258_30
                          try simp only [kb_eq0, kb_ne0, lg_cmp_lt, lg_cmp_le, lg_cmp_gt, lg_cmp_ge, lg_cmp_eq] at t_258_30
                          try simp only [Int32.lt_iff_toInt_lt, Int32.le_iff_toInt_le, ← Int32.toInt_inj, Int64.lt_iff_toInt_lt, Int64.le_iff_toInt_le, ← Int64.toInt_inj, Int32.toInt_toInt64, Int32.reduceToInt, Int64.reduceToInt] at t_258_30
                          refine lv_iconst (v := 2) hx hb dX8_copies_261 (by decide) ?_
                          refine lv_goto (tgt := 266) hx hb dX8_copies_262 (by decide) ?_
                          refine kCallVd (wr := [(mH, .inl (cI, 512, .inl fH)), (mI, .inl (cL, 1200, .inr (.inl fI))), (mJ, .inl (cI, 4, .inl (k4i j0 j1 j2 j3))), (mS, .inl (cI, 4, .inl (k4i (s0 + 1) s1 s2 s3))), (mD, .inl (cL, 256, .inr (.inl fD)))]) (va_runV (As := [.int 2]) (rest := []) ⟨hx, hb, hml, hown, hts⟩ (q_go l D cI cL cB cZ cT _ m0 mH mI mJ mS mD mX mA mB mW mL aM aC mM mQ oV pL lI sW dP sT aT 0 iW iH aE mN sZ tS tA tW lS 2) (cwV 1 hts gX8_copies_X8_go rfl rfl rfl (by decide +kernel) ⟨Nat.le_of_ble_eq_true rfl, Nat.le_of_ble_eq_true rfl⟩) (kPreV hG hP hD [0] rfl (by decide) 0 8 rfl rfl rfl) rfl rfl hl.1 rfl (lv_room (Nat.le_of_ble_eq_true rfl)) dX8_copies_266 ⟨Nat.le_of_ble_eq_true rfl, Nat.le_of_ble_eq_true rfl⟩) hA hP hD hS [0] [1, 2, 3, 4, 5] rfl rfl (by decide) (by decide) (fun _ u_r_33 H locs wr_33 hP hD hS => ?_)
                          have hP : va_P D vwCl [(mH, .inl (cI, 512, .inl fH)), (mI, .inl (cL, 1200, .inr (.inl fI))), (mJ, .inl (cI, 4, .inl (k4i j0 j1 j2 j3))), (mS, .inl (cI, 4, .inl (k4i (s0 + 1) s1 s2 s3))), (mD, .inl (cL, 256, .inr (.inl fD))), (m0, .inr (8, [.ref mH, .int aM, .long aC, .int mM, .long mQ, .int oV, .int u_r_33, .int lI, .int sW, .int dP, .int sT, .long aT, .int 0, .int iW, .ref mI, .ref mJ, .ref mS, .ref mD, .int iH, .int aE, .int mN, .long sZ, .ref mX, .int tS, .int tA, .int tW, .ref mA, .ref mB, .ref mW, .ref mL, .int lS]))] H := hP
                          have hD : va_D A [(mH, .inl (cI, 512, .inl fH)), (mI, .inl (cL, 1200, .inr (.inl fI))), (mJ, .inl (cI, 4, .inl (k4i j0 j1 j2 j3))), (mS, .inl (cI, 4, .inl (k4i (s0 + 1) s1 s2 s3))), (mD, .inl (cL, 256, .inr (.inl fD))), (m0, .inr (8, [.ref mH, .int aM, .long aC, .int mM, .long mQ, .int oV, .int u_r_33, .int lI, .int sW, .int dP, .int sT, .long aT, .int 0, .int iW, .ref mI, .ref mJ, .ref mS, .ref mD, .int iH, .int aE, .int mN, .long sZ, .ref mX, .int tS, .int tA, .int tW, .ref mA, .ref mB, .ref mW, .ref mL, .int lS]))] := hD
                          try dsimp only at wr_33
                          try simp only [Int32.reduceToInt, Int64.reduceToInt] at wr_33
                          refine lv_iconst (v := 0) hx hb dX8_copies_269 (by decide) ?_
                          refine kIret (u := (u_r_33, dP, 0, iW, fH, fD, fI, j0, j1, j2, j3, (s0 + 1), s1, s2, s3)) hx hb hr rfl hlocks hS dX8_copies_270 ?_ (hP.sub [5, 0, 1, 2, 3, 4] rfl) (hD.sub [5, 0, 1, 2, 3, 4] (by decide) rfl)
                          try dsimp only
                          try simp only [Int32.reduceToInt, Int64.reduceToInt, true_or, or_true, true_and, and_true]
                          try rw [← ex_21] at hk8
                          repeat' apply And.intro
                          all_goals first | assumption | omega
                      · have t_234_29 := c_234_29
                        try simp only [kb_eq0, kb_ne0, lg_cmp_lt, lg_cmp_le, lg_cmp_gt, lg_cmp_ge, lg_cmp_eq] at t_234_29
                        try simp only [Int32.lt_iff_toInt_lt, Int32.le_iff_toInt_le, ← Int32.toInt_inj, Int64.lt_iff_toInt_lt, Int64.le_iff_toInt_le, ← Int64.toInt_inj, Int32.toInt_toInt64, Int32.reduceToInt, Int64.reduceToInt] at t_234_29
                        refine lv_aload_n hx hb dX8_copies_237 rfl (lv_at hl 4 rfl) ?_
                        refine lv_lload hx hb dX8_copies_238 (lv_at hl 0 rfl) ?_
                        refine kCallVd (wr := [(mI, .inl (cL, 1200, .inr (.inl fI))), (mJ, .inl (cI, 4, .inl (k4i j0 j1 j2 j3))), (mS, .inl (cI, 4, .inl (k4i (s0 + 1) s1 s2 s3))), (mD, .inl (cL, 256, .inr (.inl fD)))]) (va_runV (As := [.long x_21]) (rest := []) ⟨hx, hb, hml, hown, hts⟩ (q_store l D cI cL cB cZ cT _ m0 mH mI mJ mS mD mX mA mB mW mL aM aC mM mQ oV pL lI sW dP sT aT 1 iW iH aE mN sZ tS tA tW lS fH x_21 (by omega)) (cwV 1 hts gX8_copies_X8_store rfl rfl rfl (by decide +kernel) ⟨Nat.le_of_ble_eq_true rfl, Nat.le_of_ble_eq_true rfl⟩) (kPreV hG hP hD [0, 1] rfl (by decide) 0 8 rfl rfl rfl) rfl rfl hl.1 rfl (lv_room (Nat.le_of_ble_eq_true rfl)) dX8_copies_240 ⟨Nat.le_of_ble_eq_true rfl, Nat.le_of_ble_eq_true rfl⟩) hA hP hD hS [0, 1] [2, 3, 4, 5] rfl rfl (by decide) (by decide) (fun _ u_r_34 H locs wr_34 hP hD hS => ?_)
                        have hP : va_P D vwCl [(mI, .inl (cL, 1200, .inr (.inl fI))), (mJ, .inl (cI, 4, .inl (k4i j0 j1 j2 j3))), (mS, .inl (cI, 4, .inl (k4i (s0 + 1) s1 s2 s3))), (mD, .inl (cL, 256, .inr (.inl fD))), (m0, .inr (8, [.ref mH, .int aM, .long aC, .int mM, .long mQ, .int oV, .int pL, .int lI, .int sW, .int dP, .int sT, .long aT, .int 1, .int iW, .ref mI, .ref mJ, .ref mS, .ref mD, .int iH, .int aE, .int mN, .long sZ, .ref mX, .int tS, .int tA, .int tW, .ref mA, .ref mB, .ref mW, .ref mL, .int lS])), (mH, .inl (cI, 512, .inl u_r_34))] H := hP
                        have hD : va_D A [(mI, .inl (cL, 1200, .inr (.inl fI))), (mJ, .inl (cI, 4, .inl (k4i j0 j1 j2 j3))), (mS, .inl (cI, 4, .inl (k4i (s0 + 1) s1 s2 s3))), (mD, .inl (cL, 256, .inr (.inl fD))), (m0, .inr (8, [.ref mH, .int aM, .long aC, .int mM, .long mQ, .int oV, .int pL, .int lI, .int sW, .int dP, .int sT, .long aT, .int 1, .int iW, .ref mI, .ref mJ, .ref mS, .ref mD, .int iH, .int aE, .int mN, .long sZ, .ref mX, .int tS, .int tA, .int tW, .ref mA, .ref mB, .ref mW, .ref mL, .int lS])), (mH, .inl (cI, 512, .inl u_r_34))] := hD
                        try dsimp only at wr_34
                        try simp only [Int32.reduceToInt, Int64.reduceToInt] at wr_34
                        refine lv_goto (tgt := 269) hx hb dX8_copies_243 (by decide) ?_
                        refine lv_iconst (v := 0) hx hb dX8_copies_269 (by decide) ?_
                        refine kIret (u := (pL, dP, 1, iW, u_r_34, fD, fI, j0, j1, j2, j3, (s0 + 1), s1, s2, s3)) hx hb hr rfl hlocks hS dX8_copies_270 ?_ (hP.sub [4, 5, 0, 1, 2, 3] rfl) (hD.sub [4, 5, 0, 1, 2, 3] (by decide) rfl)
                        try dsimp only
                        try simp only [Int32.reduceToInt, Int64.reduceToInt, true_or, or_true, true_and, and_true]
                        try rw [← ex_21] at hk8
                        repeat' apply And.intro
                        all_goals first | assumption | omega
                    · exact absurd (by decide) c_220_28
              · exact absurd (by decide) c_144_7
            · exact absurd (by decide) c_124_5
          · exact absurd (by decide) c_114_4
        · exact absurd (by decide) c_79_3
      · exact absurd (by decide) c_16_2
    · exact absurd c_4_1 (by decide)
  · have hk8 := k_and (x := dP + 1) (m := 255) 8 (by decide) (by decide)
    have hs0 := k_sub (a := j1) (b := 1) (by omega) (by decide)
    simp only [Int32.reduceToInt] at hs0
    have hs1 := k_sub (a := s1) (b := 1) (by omega) (by decide)
    simp only [Int32.reduceToInt] at hs1
    have hs2 := k_addg (a := s1) (b := 1) (by omega) (by decide)
    have hs3 := k_addg (a := s1) (b := (-1)) (by omega) (by decide)
    simp only [Int32.reduceToInt, show (-1 : Int32).toInt = -1 from rfl] at hs2 hs3
    refine lv_aload_n hx hb dX8_copies_0 rfl (lv_at hl 0 rfl) ?_
    refine va_get (D := D) (ci := 8) (v := .int 2) (C := RX8) (T := TX8) (N := 31) hx hb hts iX8_copies_X8 hown hK hP 0 rfl rfl 12 (by decide) (hts (.fieldLink RX8 43 "TapeCalculatorModel" "chosen" "I") (List.mem_of_getElem? (i := 1) rfl)) (fun _ h9 => h9) rfl dX8_copies_1 ?_
    refine lv_if_ne (tgt := 10) hx hb dX8_copies_4 (by decide) (fun c_4_34 => ?_) (fun c_4_34 => ?_)
    · have t_4_34 := c_4_34
      try simp only [kb_eq0, kb_ne0, lg_cmp_lt, lg_cmp_le, lg_cmp_gt, lg_cmp_ge, lg_cmp_eq] at t_4_34
      try simp only [Int32.lt_iff_toInt_lt, Int32.le_iff_toInt_le, ← Int32.toInt_inj, Int64.lt_iff_toInt_lt, Int64.le_iff_toInt_le, ← Int64.toInt_inj, Int32.toInt_toInt64, Int32.reduceToInt, Int64.reduceToInt] at t_4_34
      refine lv_aload_n hx hb dX8_copies_10 rfl (lv_at hl 0 rfl) ?_
      refine va_get (D := D) (ci := 8) (v := .int 2) (C := RX8) (T := TX8) (N := 31) hx hb hts iX8_copies_X8 hown hK hP 0 rfl rfl 12 (by decide) (hts (.fieldLink RX8 43 "TapeCalculatorModel" "chosen" "I") (List.mem_of_getElem? (i := 1) rfl)) (fun _ h9 => h9) rfl dX8_copies_11 ?_
      refine lv_bipush (v := 12) hx hb dX8_copies_14 (by decide) ?_
      refine lv_icmp_le (tgt := 73) hx hb dX8_copies_16 (by decide) (fun c_16_35 => ?_) (fun c_16_35 => ?_)
      · have t_16_35 := c_16_35
        try simp only [kb_eq0, kb_ne0, lg_cmp_lt, lg_cmp_le, lg_cmp_gt, lg_cmp_ge, lg_cmp_eq] at t_16_35
        try simp only [Int32.lt_iff_toInt_lt, Int32.le_iff_toInt_le, ← Int32.toInt_inj, Int64.lt_iff_toInt_lt, Int64.le_iff_toInt_le, ← Int64.toInt_inj, Int32.toInt_toInt64, Int32.reduceToInt, Int64.reduceToInt] at t_16_35
        refine lv_aload_n hx hb dX8_copies_73 rfl (lv_at hl 0 rfl) ?_
        refine va_get (D := D) (ci := 8) (v := .int 2) (C := RX8) (T := TX8) (N := 31) hx hb hts iX8_copies_X8 hown hK hP 0 rfl rfl 12 (by decide) (hts (.fieldLink RX8 43 "TapeCalculatorModel" "chosen" "I") (List.mem_of_getElem? (i := 1) rfl)) (fun _ h9 => h9) rfl dX8_copies_74 ?_
        refine lv_bipush (v := 8) hx hb dX8_copies_77 (by decide) ?_
        refine lv_icmp_le (tgt := 109) hx hb dX8_copies_79 (by decide) (fun c_79_36 => ?_) (fun c_79_36 => ?_)
        · have t_79_36 := c_79_36
          try simp only [kb_eq0, kb_ne0, lg_cmp_lt, lg_cmp_le, lg_cmp_gt, lg_cmp_ge, lg_cmp_eq] at t_79_36
          try simp only [Int32.lt_iff_toInt_lt, Int32.le_iff_toInt_le, ← Int32.toInt_inj, Int64.lt_iff_toInt_lt, Int64.le_iff_toInt_le, ← Int64.toInt_inj, Int32.toInt_toInt64, Int32.reduceToInt, Int64.reduceToInt] at t_79_36
          refine lv_aload_n hx hb dX8_copies_109 rfl (lv_at hl 0 rfl) ?_
          refine va_get (D := D) (ci := 8) (v := .int 2) (C := RX8) (T := TX8) (N := 31) hx hb hts iX8_copies_X8 hown hK hP 0 rfl rfl 12 (by decide) (hts (.fieldLink RX8 43 "TapeCalculatorModel" "chosen" "I") (List.mem_of_getElem? (i := 1) rfl)) (fun _ h9 => h9) rfl dX8_copies_110 ?_
          refine lv_iconst (v := 4) hx hb dX8_copies_113 (by decide) ?_
          refine lv_icmp_le (tgt := 121) hx hb dX8_copies_114 (by decide) (fun c_114_37 => ?_) (fun c_114_37 => ?_)
          · have t_114_37 := c_114_37
            try simp only [kb_eq0, kb_ne0, lg_cmp_lt, lg_cmp_le, lg_cmp_gt, lg_cmp_ge, lg_cmp_eq] at t_114_37
            try simp only [Int32.lt_iff_toInt_lt, Int32.le_iff_toInt_le, ← Int32.toInt_inj, Int64.lt_iff_toInt_lt, Int64.le_iff_toInt_le, ← Int64.toInt_inj, Int32.toInt_toInt64, Int32.reduceToInt, Int64.reduceToInt] at t_114_37
            refine lv_iconst (v := 0) hx hb dX8_copies_121 (by decide) ?_
            refine lv_istore_n (lv' := [(1, .int 0), (0, .ref m0)]) hx hb dX8_copies_122 rfl hl (by decide) rfl (fun ls hl => ?_)
            refine lv_iload_n hx hb dX8_copies_123 rfl (lv_at hl 0 rfl) ?_
            refine lv_if_eq (tgt := 136) hx hb dX8_copies_124 (by decide) (fun c_124_38 => ?_) (fun c_124_38 => ?_)
            · have t_124_38 := c_124_38
              try simp only [kb_eq0, kb_ne0, lg_cmp_lt, lg_cmp_le, lg_cmp_gt, lg_cmp_ge, lg_cmp_eq] at t_124_38
              try simp only [Int32.lt_iff_toInt_lt, Int32.le_iff_toInt_le, ← Int32.toInt_inj, Int64.lt_iff_toInt_lt, Int64.le_iff_toInt_le, ← Int64.toInt_inj, Int32.toInt_toInt64, Int32.reduceToInt, Int64.reduceToInt] at t_124_38
              refine lv_aload_n hx hb dX8_copies_136 rfl (lv_at hl 1 rfl) ?_
              refine va_get (D := D) (ci := 8) (v := .int 2) (C := RX8) (T := TX8) (N := 31) hx hb hts iX8_copies_X8 hown hK hP 0 rfl rfl 12 (by decide) (hts (.fieldLink RX8 43 "TapeCalculatorModel" "chosen" "I") (List.mem_of_getElem? (i := 1) rfl)) (fun _ h9 => h9) rfl dX8_copies_137 ?_
              refine lv_iconst (v := 1) hx hb dX8_copies_140 (by decide) ?_
              refine lv_isub hx hb dX8_copies_141 ?_
              refine lv_topi (fun x_40 ex_40 => ?_)
              obtain rfl : x_40 = 1 := ex_40.trans (by decide)
              refine lv_istore_n (lv' := [(2, .int 1), (1, .int 0), (0, .ref m0)]) hx hb dX8_copies_142 rfl hl (by decide) rfl (fun ls hl => ?_)
              refine lv_iload_n hx hb dX8_copies_143 rfl (lv_at hl 1 rfl) ?_
              refine lv_if_eq (tgt := 158) hx hb dX8_copies_144 (by decide) (fun c_144_40 => ?_) (fun c_144_40 => ?_)
              · have t_144_40 := c_144_40
                try simp only [kb_eq0, kb_ne0, lg_cmp_lt, lg_cmp_le, lg_cmp_gt, lg_cmp_ge, lg_cmp_eq] at t_144_40
                try simp only [Int32.lt_iff_toInt_lt, Int32.le_iff_toInt_le, ← Int32.toInt_inj, Int64.lt_iff_toInt_lt, Int64.le_iff_toInt_le, ← Int64.toInt_inj, Int32.toInt_toInt64, Int32.reduceToInt, Int64.reduceToInt] at t_144_40
                refine lv_aload_n hx hb dX8_copies_158 rfl (lv_at hl 2 rfl) ?_
                refine va_get (D := D) (ci := 8) (v := .ref mS) (C := RX8) (T := TX8) (N := 31) hx hb hts iX8_copies_X8 hown hK hP 0 rfl rfl 16 (by decide) (hts (.fieldLink RX8 20 "TapeCalculatorModel" "stands" "[I") (List.mem_of_getElem? (i := 5) rfl)) (fun _ h9 => h9) rfl dX8_copies_159 ?_
                refine lv_iload_n hx hb dX8_copies_162 rfl (lv_at hl 0 rfl) ?_
                refine va_iald hx hb hK hP 4 0 rfl rfl (vp_in_iff.mpr (by decide)) dX8_copies_163 ?_
                refine lv_topi (fun x_42 ex_42 => ?_)
                obtain rfl : s1 = x_42 := ex_42.symm
                refine lv_istore_n (lv' := [(3, .int s1), (2, .int 1), (1, .int 0), (0, .ref m0)]) hx hb dX8_copies_164 rfl hl (by decide) rfl (fun ls hl => ?_)
                refine lv_iload_n hx hb dX8_copies_165 rfl (lv_at hl 0 rfl) ?_
                refine lv_i2l hx hb dX8_copies_166 rfl ?_
                refine lv_lconst (v := 0) hx hb dX8_copies_167 (by decide) ?_
                refine lv_aload_n hx hb dX8_copies_168 rfl (lv_at hl 3 rfl) ?_
                refine va_get (D := D) (ci := 8) (v := .ref mJ) (C := RX8) (T := TX8) (N := 31) hx hb hts iX8_copies_X8 hown hK hP 0 rfl rfl 15 (by decide) (hts (.fieldLink RX8 17 "TapeCalculatorModel" "items" "[I") (List.mem_of_getElem? (i := 6) rfl)) (fun _ h9 => h9) rfl dX8_copies_169 ?_
                refine lv_iload_n hx hb dX8_copies_172 rfl (lv_at hl 1 rfl) ?_
                refine va_iald hx hb hK hP 3 0 rfl rfl (vp_in_iff.mpr (by decide)) dX8_copies_173 ?_
                refine lv_topi (fun x_43 ex_43 => ?_)
                obtain rfl : j1 = x_43 := ex_43.symm
                refine lv_iconst (v := 1) hx hb dX8_copies_174 (by decide) ?_
                refine lv_isub hx hb dX8_copies_175 ?_
                refine lv_i2l hx hb dX8_copies_176 rfl ?_
                refine kCallI (wr := [(m0, .inr (8, [.ref mH, .int aM, .long aC, .int mM, .long mQ, .int oV, .int pL, .int lI, .int sW, .int dP, .int sT, .long aT, .int 2, .int iW, .ref mI, .ref mJ, .ref mS, .ref mD, .int iH, .int aE, .int mN, .long sZ, .ref mX, .int tS, .int tA, .int tW, .ref mA, .ref mB, .ref mW, .ref mL, .int lS])), (mH, .inl (cI, 512, .inl fH)), (mI, .inl (cL, 1200, .inr (.inl fI))), (mJ, .inl (cI, 4, .inl (k4i j0 j1 j2 j3))), (mS, .inl (cI, 4, .inl (k4i s0 s1 s2 s3))), (mD, .inl (cL, 256, .inr (.inl fD)))]) (va_runS (As := [.long s1.toInt64, .long 0, .long (j1 - 1).toInt64]) (rest := []) ⟨hx, hb, hml, hown, hts⟩ (q_in l D cI cL cB cZ cT _ (s1.toInt64) 0 (j1 - 1).toInt64) (va_cwS 3 hts gX8_copies_X8_in rfl rfl rfl (by decide +kernel) ⟨Nat.le_of_ble_eq_true rfl, Nat.le_of_ble_eq_true rfl⟩) (kPreS hG hP hD [] rfl (by decide)) rfl rfl hl.1 rfl (lv_room (Nat.le_of_ble_eq_true rfl)) dX8_copies_177 ⟨Nat.le_of_ble_eq_true rfl, Nat.le_of_ble_eq_true rfl⟩) hA hP hD hS [] [0, 1, 2, 3, 4, 5] rfl rfl (by decide) (by decide) (fun r_44 u_r_44 H locs wr_44 hP hD hS => ?_)
                have hP : va_P D vwCl [(m0, .inr (8, [.ref mH, .int aM, .long aC, .int mM, .long mQ, .int oV, .int pL, .int lI, .int sW, .int dP, .int sT, .long aT, .int 2, .int iW, .ref mI, .ref mJ, .ref mS, .ref mD, .int iH, .int aE, .int mN, .long sZ, .ref mX, .int tS, .int tA, .int tW, .ref mA, .ref mB, .ref mW, .ref mL, .int lS])), (mH, .inl (cI, 512, .inl fH)), (mI, .inl (cL, 1200, .inr (.inl fI))), (mJ, .inl (cI, 4, .inl (k4i j0 j1 j2 j3))), (mS, .inl (cI, 4, .inl (k4i s0 s1 s2 s3))), (mD, .inl (cL, 256, .inr (.inl fD)))] H := hP
                have hD : va_D A [(m0, .inr (8, [.ref mH, .int aM, .long aC, .int mM, .long mQ, .int oV, .int pL, .int lI, .int sW, .int dP, .int sT, .long aT, .int 2, .int iW, .ref mI, .ref mJ, .ref mS, .ref mD, .int iH, .int aE, .int mN, .long sZ, .ref mX, .int tS, .int tA, .int tW, .ref mA, .ref mB, .ref mW, .ref mL, .int lS])), (mH, .inl (cI, 512, .inl fH)), (mI, .inl (cL, 1200, .inr (.inl fI))), (mJ, .inl (cI, 4, .inl (k4i j0 j1 j2 j3))), (mS, .inl (cI, 4, .inl (k4i s0 s1 s2 s3))), (mD, .inl (cL, 256, .inr (.inl fD)))] := hD
                try dsimp only at wr_44
                subst wr_44
                refine lv_if_eq (tgt := 198) hx hb dX8_copies_180 (by decide) (fun c_180_44 => ?_) (fun c_180_44 => ?_)
                · have t_180_44 := c_180_44
                  try simp only [kb_eq0, kb_ne0, lg_cmp_lt, lg_cmp_le, lg_cmp_gt, lg_cmp_ge, lg_cmp_eq] at t_180_44
                  try simp only [Int32.lt_iff_toInt_lt, Int32.le_iff_toInt_le, ← Int32.toInt_inj, Int64.lt_iff_toInt_lt, Int64.le_iff_toInt_le, ← Int64.toInt_inj, Int32.toInt_toInt64, Int32.reduceToInt, Int64.reduceToInt] at t_180_44
                  refine lv_ldc2 (v := (-9)) hx hb hown (hts (.constantLong RX8 107 (-9)) (List.mem_of_getElem? (i := 8) rfl)) dX8_copies_198 ?_
                  refine lv_lstore (lv' := [(4, .long (-9)), (3, .int s1), (2, .int 1), (1, .int 0), (0, .ref m0)]) hx hb dX8_copies_201 hl (by decide) rfl (fun ls hl => ?_)
                  refine lv_lload hx hb dX8_copies_203 (lv_at hl 0 rfl) ?_
                  refine lv_ldc2 (v := (-9)) hx hb hown (hts (.constantLong RX8 107 (-9)) (List.mem_of_getElem? (i := 8) rfl)) dX8_copies_205 ?_
                  refine W.lcmp hx hb dX8_copies_208 ?_
                  refine lv_topi (fun x_46 ex_46 => ?_)
                  obtain rfl : x_46 = 0 := ex_46.trans (by decide)
                  refine lv_if_eq (tgt := 230) hx hb dX8_copies_209 (by decide) (fun c_209_46 => ?_) (fun c_209_46 => ?_)
                  · have t_209_46 := c_209_46
                    try simp only [kb_eq0, kb_ne0, lg_cmp_lt, lg_cmp_le, lg_cmp_gt, lg_cmp_ge, lg_cmp_eq] at t_209_46
                    try simp only [Int32.lt_iff_toInt_lt, Int32.le_iff_toInt_le, ← Int32.toInt_inj, Int64.lt_iff_toInt_lt, Int64.le_iff_toInt_le, ← Int64.toInt_inj, Int32.toInt_toInt64, Int32.reduceToInt, Int64.reduceToInt] at t_209_46
                    refine lv_lload hx hb dX8_copies_230 (lv_at hl 0 rfl) ?_
                    refine lv_lconst (v := 0) hx hb dX8_copies_232 (by decide) ?_
                    refine W.lcmp hx hb dX8_copies_233 ?_
                    refine lv_topi (fun x_48 ex_48 => ?_)
                    obtain rfl : x_48 = (-1) := ex_48.trans (by decide)
                    refine lv_if_lt (tgt := 246) hx hb dX8_copies_234 (by decide) (fun c_234_48 => ?_) (fun c_234_48 => ?_)
                    · have t_234_48 := c_234_48
                      try simp only [kb_eq0, kb_ne0, lg_cmp_lt, lg_cmp_le, lg_cmp_gt, lg_cmp_ge, lg_cmp_eq] at t_234_48
                      try simp only [Int32.lt_iff_toInt_lt, Int32.le_iff_toInt_le, ← Int32.toInt_inj, Int64.lt_iff_toInt_lt, Int64.le_iff_toInt_le, ← Int64.toInt_inj, Int32.toInt_toInt64, Int32.reduceToInt, Int64.reduceToInt] at t_234_48
                      refine lv_aload_n hx hb dX8_copies_246 rfl (lv_at hl 4 rfl) ?_
                      refine lv_iconst (v := 0) hx hb dX8_copies_247 (by decide) ?_
                      refine va_put (D := D) (ci := 8) (v := .int 0) (ty := .int) (C := RX8) (T := TX8) (N := 31) hx hb hts iX8_copies_X8 tyX8 tyX8_ok nmX8 hown hK hP hD hS 0 rfl rfl 12 (by decide) (hts (.fieldLink RX8 43 "TapeCalculatorModel" "chosen" "I") (List.mem_of_getElem? (i := 1) rfl)) (fun _ h9 => h9) rfl (by decide +kernel) rfl rfl (Nat.le_of_ble_eq_true rfl) dX8_copies_248 (fun H locs hP hD hS => ?_)
                      have hP : va_P D vwCl [(m0, .inr (8, [.ref mH, .int aM, .long aC, .int mM, .long mQ, .int oV, .int pL, .int lI, .int sW, .int dP, .int sT, .long aT, .int 0, .int iW, .ref mI, .ref mJ, .ref mS, .ref mD, .int iH, .int aE, .int mN, .long sZ, .ref mX, .int tS, .int tA, .int tW, .ref mA, .ref mB, .ref mW, .ref mL, .int lS])), (mH, .inl (cI, 512, .inl fH)), (mI, .inl (cL, 1200, .inr (.inl fI))), (mJ, .inl (cI, 4, .inl (k4i j0 j1 j2 j3))), (mS, .inl (cI, 4, .inl (k4i s0 s1 s2 s3))), (mD, .inl (cL, 256, .inr (.inl fD)))] H := hP
                      have hD : va_D A [(m0, .inr (8, [.ref mH, .int aM, .long aC, .int mM, .long mQ, .int oV, .int pL, .int lI, .int sW, .int dP, .int sT, .long aT, .int 0, .int iW, .ref mI, .ref mJ, .ref mS, .ref mD, .int iH, .int aE, .int mN, .long sZ, .ref mX, .int tS, .int tA, .int tW, .ref mA, .ref mB, .ref mW, .ref mL, .int lS])), (mH, .inl (cI, 512, .inl fH)), (mI, .inl (cL, 1200, .inr (.inl fI))), (mJ, .inl (cI, 4, .inl (k4i j0 j1 j2 j3))), (mS, .inl (cI, 4, .inl (k4i s0 s1 s2 s3))), (mD, .inl (cL, 256, .inr (.inl fD)))] := hD
                      refine lv_aload_n hx hb dX8_copies_251 rfl (lv_at hl 4 rfl) ?_
                      refine lv_lload hx hb dX8_copies_252 (lv_at hl 0 rfl) ?_
                      refine lv_ldc2 (v := (-2)) hx hb hown (hts (.constantLong RX8 111 (-2)) (List.mem_of_getElem? (i := 9) rfl)) dX8_copies_254 ?_
                      refine W.lcmp hx hb dX8_copies_257 ?_
                      refine lv_topi (fun x_50 ex_50 => ?_)
                      obtain rfl : x_50 = (-1) := ex_50.trans (by decide)
                      refine lv_if_ne (tgt := 265) hx hb dX8_copies_258 (by decide) (fun c_258_50 => ?_) (fun c_258_50 => ?_)
                      · have t_258_50 := c_258_50
                        try simp only [kb_eq0, kb_ne0, lg_cmp_lt, lg_cmp_le, lg_cmp_gt, lg_cmp_ge, lg_cmp_eq] at t_258_50
                        try simp only [Int32.lt_iff_toInt_lt, Int32.le_iff_toInt_le, ← Int32.toInt_inj, Int64.lt_iff_toInt_lt, Int64.le_iff_toInt_le, ← Int64.toInt_inj, Int32.toInt_toInt64, Int32.reduceToInt, Int64.reduceToInt] at t_258_50
                        refine lv_iconst (v := 1) hx hb dX8_copies_265 (by decide) ?_
                        refine kCallVd (wr := [(mH, .inl (cI, 512, .inl fH)), (mI, .inl (cL, 1200, .inr (.inl fI))), (mJ, .inl (cI, 4, .inl (k4i j0 j1 j2 j3))), (mS, .inl (cI, 4, .inl (k4i s0 s1 s2 s3))), (mD, .inl (cL, 256, .inr (.inl fD)))]) (va_runV (As := [.int 1]) (rest := []) ⟨hx, hb, hml, hown, hts⟩ (q_go l D cI cL cB cZ cT _ m0 mH mI mJ mS mD mX mA mB mW mL aM aC mM mQ oV pL lI sW dP sT aT 0 iW iH aE mN sZ tS tA tW lS 1) (cwV 1 hts gX8_copies_X8_go rfl rfl rfl (by decide +kernel) ⟨Nat.le_of_ble_eq_true rfl, Nat.le_of_ble_eq_true rfl⟩) (kPreV hG hP hD [0] rfl (by decide) 0 8 rfl rfl rfl) rfl rfl hl.1 rfl (lv_room (Nat.le_of_ble_eq_true rfl)) dX8_copies_266 ⟨Nat.le_of_ble_eq_true rfl, Nat.le_of_ble_eq_true rfl⟩) hA hP hD hS [0] [1, 2, 3, 4, 5] rfl rfl (by decide) (by decide) (fun _ u_r_52 H locs wr_52 hP hD hS => ?_)
                        have hP : va_P D vwCl [(mH, .inl (cI, 512, .inl fH)), (mI, .inl (cL, 1200, .inr (.inl fI))), (mJ, .inl (cI, 4, .inl (k4i j0 j1 j2 j3))), (mS, .inl (cI, 4, .inl (k4i s0 s1 s2 s3))), (mD, .inl (cL, 256, .inr (.inl fD))), (m0, .inr (8, [.ref mH, .int aM, .long aC, .int mM, .long mQ, .int oV, .int u_r_52, .int lI, .int sW, .int dP, .int sT, .long aT, .int 0, .int iW, .ref mI, .ref mJ, .ref mS, .ref mD, .int iH, .int aE, .int mN, .long sZ, .ref mX, .int tS, .int tA, .int tW, .ref mA, .ref mB, .ref mW, .ref mL, .int lS]))] H := hP
                        have hD : va_D A [(mH, .inl (cI, 512, .inl fH)), (mI, .inl (cL, 1200, .inr (.inl fI))), (mJ, .inl (cI, 4, .inl (k4i j0 j1 j2 j3))), (mS, .inl (cI, 4, .inl (k4i s0 s1 s2 s3))), (mD, .inl (cL, 256, .inr (.inl fD))), (m0, .inr (8, [.ref mH, .int aM, .long aC, .int mM, .long mQ, .int oV, .int u_r_52, .int lI, .int sW, .int dP, .int sT, .long aT, .int 0, .int iW, .ref mI, .ref mJ, .ref mS, .ref mD, .int iH, .int aE, .int mN, .long sZ, .ref mX, .int tS, .int tA, .int tW, .ref mA, .ref mB, .ref mW, .ref mL, .int lS]))] := hD
                        try dsimp only at wr_52
                        try simp only [Int32.reduceToInt, Int64.reduceToInt] at wr_52
                        refine lv_iconst (v := 0) hx hb dX8_copies_269 (by decide) ?_
                        refine kIret (u := (u_r_52, dP, 0, iW, fH, fD, fI, j0, j1, j2, j3, s0, s1, s2, s3)) hx hb hr rfl hlocks hS dX8_copies_270 ?_ (hP.sub [5, 0, 1, 2, 3, 4] rfl) (hD.sub [5, 0, 1, 2, 3, 4] (by decide) rfl)
                        try dsimp only
                        try simp only [Int32.reduceToInt, Int64.reduceToInt, true_or, or_true, true_and, and_true]
                        repeat' apply And.intro
                        all_goals first | assumption | omega
                      · exact absurd c_258_50 (by decide)
                    · exact absurd (by decide) c_234_48
                  · exact absurd (by decide) c_209_46
                · have t_180_44 := c_180_44
                  try simp only [kb_eq0, kb_ne0, lg_cmp_lt, lg_cmp_le, lg_cmp_gt, lg_cmp_ge, lg_cmp_eq] at t_180_44
                  try simp only [Int32.lt_iff_toInt_lt, Int32.le_iff_toInt_le, ← Int32.toInt_inj, Int64.lt_iff_toInt_lt, Int64.le_iff_toInt_le, ← Int64.toInt_inj, Int32.toInt_toInt64, Int32.reduceToInt, Int64.reduceToInt] at t_180_44
                  refine lv_aload_n hx hb dX8_copies_183 rfl (lv_at hl 3 rfl) ?_
                  refine va_get (D := D) (ci := 8) (v := .ref mI) (C := RX8) (T := TX8) (N := 31) hx hb hts iX8_copies_X8 hown hK hP 0 rfl rfl 14 (by decide) (hts (.fieldLink RX8 13 "TapeCalculatorModel" "item" "[J") (List.mem_of_getElem? (i := 7) rfl)) (fun _ h9 => h9) rfl dX8_copies_184 ?_
                  refine lv_sipush (v := 300) hx hb dX8_copies_187 (by decide) ?_
                  refine lv_iload_n hx hb dX8_copies_190 rfl (lv_at hl 1 rfl) ?_
                  refine lv_imul hx hb dX8_copies_191 ?_
                  refine lv_topi (fun x_53 ex_53 => ?_)
                  obtain rfl : x_53 = 300 := ex_53.trans (by decide)
                  refine lv_iload_n hx hb dX8_copies_192 rfl (lv_at hl 0 rfl) ?_
                  refine lv_iadd hx hb dX8_copies_193 ?_
                  refine va_lald hx hb hK hP 2 1 rfl rfl (vp_in_iff.mpr (by have hx9 := k_addg (a := 300) (b := s1) (by decide) (by omega); simp only [Int32.reduceToInt] at hx9; omega)) dX8_copies_194 ?_
                  refine lv_goto (tgt := 201) hx hb dX8_copies_195 (by decide) ?_
                  refine lv_topl (fun x_54 ex_54 => ?_)
                  refine lv_lstore (lv' := [(4, .long x_54), (3, .int s1), (2, .int 1), (1, .int 0), (0, .ref m0)]) hx hb dX8_copies_201 hl (by decide) rfl (fun ls hl => ?_)
                  refine lv_lload hx hb dX8_copies_203 (lv_at hl 0 rfl) ?_
                  refine lv_ldc2 (v := (-9)) hx hb hown (hts (.constantLong RX8 107 (-9)) (List.mem_of_getElem? (i := 8) rfl)) dX8_copies_205 ?_
                  refine W.lcmp hx hb dX8_copies_208 ?_
                  refine lv_if_eq (tgt := 230) hx hb dX8_copies_209 (by decide) (fun c_209_54 => ?_) (fun c_209_54 => ?_)
                  · have t_209_54 := c_209_54
                    try simp only [kb_eq0, kb_ne0, lg_cmp_lt, lg_cmp_le, lg_cmp_gt, lg_cmp_ge, lg_cmp_eq] at t_209_54
                    try simp only [Int32.lt_iff_toInt_lt, Int32.le_iff_toInt_le, ← Int32.toInt_inj, Int64.lt_iff_toInt_lt, Int64.le_iff_toInt_le, ← Int64.toInt_inj, Int32.toInt_toInt64, Int32.reduceToInt, Int64.reduceToInt] at t_209_54
                    refine lv_lload hx hb dX8_copies_230 (lv_at hl 0 rfl) ?_
                    refine lv_lconst (v := 0) hx hb dX8_copies_232 (by decide) ?_
                    refine W.lcmp hx hb dX8_copies_233 ?_
                    refine lv_if_lt (tgt := 246) hx hb dX8_copies_234 (by decide) (fun c_234_55 => ?_) (fun c_234_55 => ?_)
                    · have t_234_55 := c_234_55
                      try simp only [kb_eq0, kb_ne0, lg_cmp_lt, lg_cmp_le, lg_cmp_gt, lg_cmp_ge, lg_cmp_eq] at t_234_55
                      try simp only [Int32.lt_iff_toInt_lt, Int32.le_iff_toInt_le, ← Int32.toInt_inj, Int64.lt_iff_toInt_lt, Int64.le_iff_toInt_le, ← Int64.toInt_inj, Int32.toInt_toInt64, Int32.reduceToInt, Int64.reduceToInt] at t_234_55
                      refine lv_aload_n hx hb dX8_copies_246 rfl (lv_at hl 4 rfl) ?_
                      refine lv_iconst (v := 0) hx hb dX8_copies_247 (by decide) ?_
                      refine va_put (D := D) (ci := 8) (v := .int 0) (ty := .int) (C := RX8) (T := TX8) (N := 31) hx hb hts iX8_copies_X8 tyX8 tyX8_ok nmX8 hown hK hP hD hS 0 rfl rfl 12 (by decide) (hts (.fieldLink RX8 43 "TapeCalculatorModel" "chosen" "I") (List.mem_of_getElem? (i := 1) rfl)) (fun _ h9 => h9) rfl (by decide +kernel) rfl rfl (Nat.le_of_ble_eq_true rfl) dX8_copies_248 (fun H locs hP hD hS => ?_)
                      have hP : va_P D vwCl [(m0, .inr (8, [.ref mH, .int aM, .long aC, .int mM, .long mQ, .int oV, .int pL, .int lI, .int sW, .int dP, .int sT, .long aT, .int 0, .int iW, .ref mI, .ref mJ, .ref mS, .ref mD, .int iH, .int aE, .int mN, .long sZ, .ref mX, .int tS, .int tA, .int tW, .ref mA, .ref mB, .ref mW, .ref mL, .int lS])), (mH, .inl (cI, 512, .inl fH)), (mI, .inl (cL, 1200, .inr (.inl fI))), (mJ, .inl (cI, 4, .inl (k4i j0 j1 j2 j3))), (mS, .inl (cI, 4, .inl (k4i s0 s1 s2 s3))), (mD, .inl (cL, 256, .inr (.inl fD)))] H := hP
                      have hD : va_D A [(m0, .inr (8, [.ref mH, .int aM, .long aC, .int mM, .long mQ, .int oV, .int pL, .int lI, .int sW, .int dP, .int sT, .long aT, .int 0, .int iW, .ref mI, .ref mJ, .ref mS, .ref mD, .int iH, .int aE, .int mN, .long sZ, .ref mX, .int tS, .int tA, .int tW, .ref mA, .ref mB, .ref mW, .ref mL, .int lS])), (mH, .inl (cI, 512, .inl fH)), (mI, .inl (cL, 1200, .inr (.inl fI))), (mJ, .inl (cI, 4, .inl (k4i j0 j1 j2 j3))), (mS, .inl (cI, 4, .inl (k4i s0 s1 s2 s3))), (mD, .inl (cL, 256, .inr (.inl fD)))] := hD
                      refine lv_aload_n hx hb dX8_copies_251 rfl (lv_at hl 4 rfl) ?_
                      refine lv_lload hx hb dX8_copies_252 (lv_at hl 0 rfl) ?_
                      refine lv_ldc2 (v := (-2)) hx hb hown (hts (.constantLong RX8 111 (-2)) (List.mem_of_getElem? (i := 9) rfl)) dX8_copies_254 ?_
                      refine W.lcmp hx hb dX8_copies_257 ?_
                      refine lv_if_ne (tgt := 265) hx hb dX8_copies_258 (by decide) (fun c_258_56 => ?_) (fun c_258_56 => ?_)
                      · have t_258_56 := c_258_56
                        try simp only [kb_eq0, kb_ne0, lg_cmp_lt, lg_cmp_le, lg_cmp_gt, lg_cmp_ge, lg_cmp_eq] at t_258_56
                        try simp only [Int32.lt_iff_toInt_lt, Int32.le_iff_toInt_le, ← Int32.toInt_inj, Int64.lt_iff_toInt_lt, Int64.le_iff_toInt_le, ← Int64.toInt_inj, Int32.toInt_toInt64, Int32.reduceToInt, Int64.reduceToInt] at t_258_56
                        refine lv_iconst (v := 1) hx hb dX8_copies_265 (by decide) ?_
                        refine kCallVd (wr := [(mH, .inl (cI, 512, .inl fH)), (mI, .inl (cL, 1200, .inr (.inl fI))), (mJ, .inl (cI, 4, .inl (k4i j0 j1 j2 j3))), (mS, .inl (cI, 4, .inl (k4i s0 s1 s2 s3))), (mD, .inl (cL, 256, .inr (.inl fD)))]) (va_runV (As := [.int 1]) (rest := []) ⟨hx, hb, hml, hown, hts⟩ (q_go l D cI cL cB cZ cT _ m0 mH mI mJ mS mD mX mA mB mW mL aM aC mM mQ oV pL lI sW dP sT aT 0 iW iH aE mN sZ tS tA tW lS 1) (cwV 1 hts gX8_copies_X8_go rfl rfl rfl (by decide +kernel) ⟨Nat.le_of_ble_eq_true rfl, Nat.le_of_ble_eq_true rfl⟩) (kPreV hG hP hD [0] rfl (by decide) 0 8 rfl rfl rfl) rfl rfl hl.1 rfl (lv_room (Nat.le_of_ble_eq_true rfl)) dX8_copies_266 ⟨Nat.le_of_ble_eq_true rfl, Nat.le_of_ble_eq_true rfl⟩) hA hP hD hS [0] [1, 2, 3, 4, 5] rfl rfl (by decide) (by decide) (fun _ u_r_58 H locs wr_58 hP hD hS => ?_)
                        have hP : va_P D vwCl [(mH, .inl (cI, 512, .inl fH)), (mI, .inl (cL, 1200, .inr (.inl fI))), (mJ, .inl (cI, 4, .inl (k4i j0 j1 j2 j3))), (mS, .inl (cI, 4, .inl (k4i s0 s1 s2 s3))), (mD, .inl (cL, 256, .inr (.inl fD))), (m0, .inr (8, [.ref mH, .int aM, .long aC, .int mM, .long mQ, .int oV, .int u_r_58, .int lI, .int sW, .int dP, .int sT, .long aT, .int 0, .int iW, .ref mI, .ref mJ, .ref mS, .ref mD, .int iH, .int aE, .int mN, .long sZ, .ref mX, .int tS, .int tA, .int tW, .ref mA, .ref mB, .ref mW, .ref mL, .int lS]))] H := hP
                        have hD : va_D A [(mH, .inl (cI, 512, .inl fH)), (mI, .inl (cL, 1200, .inr (.inl fI))), (mJ, .inl (cI, 4, .inl (k4i j0 j1 j2 j3))), (mS, .inl (cI, 4, .inl (k4i s0 s1 s2 s3))), (mD, .inl (cL, 256, .inr (.inl fD))), (m0, .inr (8, [.ref mH, .int aM, .long aC, .int mM, .long mQ, .int oV, .int u_r_58, .int lI, .int sW, .int dP, .int sT, .long aT, .int 0, .int iW, .ref mI, .ref mJ, .ref mS, .ref mD, .int iH, .int aE, .int mN, .long sZ, .ref mX, .int tS, .int tA, .int tW, .ref mA, .ref mB, .ref mW, .ref mL, .int lS]))] := hD
                        try dsimp only at wr_58
                        try simp only [Int32.reduceToInt, Int64.reduceToInt] at wr_58
                        refine lv_iconst (v := 0) hx hb dX8_copies_269 (by decide) ?_
                        refine kIret (u := (u_r_58, dP, 0, iW, fH, fD, fI, j0, j1, j2, j3, s0, s1, s2, s3)) hx hb hr rfl hlocks hS dX8_copies_270 ?_ (hP.sub [5, 0, 1, 2, 3, 4] rfl) (hD.sub [5, 0, 1, 2, 3, 4] (by decide) rfl)
                        try dsimp only
                        try simp only [Int32.reduceToInt, Int64.reduceToInt, true_or, or_true, true_and, and_true]
                        try rw [← ex_54] at hk8
                        repeat' apply And.intro
                        all_goals first | assumption | omega
                      · have t_258_56 := c_258_56
                        try simp only [kb_eq0, kb_ne0, lg_cmp_lt, lg_cmp_le, lg_cmp_gt, lg_cmp_ge, lg_cmp_eq] at t_258_56
                        try simp only [Int32.lt_iff_toInt_lt, Int32.le_iff_toInt_le, ← Int32.toInt_inj, Int64.lt_iff_toInt_lt, Int64.le_iff_toInt_le, ← Int64.toInt_inj, Int32.toInt_toInt64, Int32.reduceToInt, Int64.reduceToInt] at t_258_56
                        refine lv_iconst (v := 2) hx hb dX8_copies_261 (by decide) ?_
                        refine lv_goto (tgt := 266) hx hb dX8_copies_262 (by decide) ?_
                        refine kCallVd (wr := [(mH, .inl (cI, 512, .inl fH)), (mI, .inl (cL, 1200, .inr (.inl fI))), (mJ, .inl (cI, 4, .inl (k4i j0 j1 j2 j3))), (mS, .inl (cI, 4, .inl (k4i s0 s1 s2 s3))), (mD, .inl (cL, 256, .inr (.inl fD)))]) (va_runV (As := [.int 2]) (rest := []) ⟨hx, hb, hml, hown, hts⟩ (q_go l D cI cL cB cZ cT _ m0 mH mI mJ mS mD mX mA mB mW mL aM aC mM mQ oV pL lI sW dP sT aT 0 iW iH aE mN sZ tS tA tW lS 2) (cwV 1 hts gX8_copies_X8_go rfl rfl rfl (by decide +kernel) ⟨Nat.le_of_ble_eq_true rfl, Nat.le_of_ble_eq_true rfl⟩) (kPreV hG hP hD [0] rfl (by decide) 0 8 rfl rfl rfl) rfl rfl hl.1 rfl (lv_room (Nat.le_of_ble_eq_true rfl)) dX8_copies_266 ⟨Nat.le_of_ble_eq_true rfl, Nat.le_of_ble_eq_true rfl⟩) hA hP hD hS [0] [1, 2, 3, 4, 5] rfl rfl (by decide) (by decide) (fun _ u_r_59 H locs wr_59 hP hD hS => ?_)
                        have hP : va_P D vwCl [(mH, .inl (cI, 512, .inl fH)), (mI, .inl (cL, 1200, .inr (.inl fI))), (mJ, .inl (cI, 4, .inl (k4i j0 j1 j2 j3))), (mS, .inl (cI, 4, .inl (k4i s0 s1 s2 s3))), (mD, .inl (cL, 256, .inr (.inl fD))), (m0, .inr (8, [.ref mH, .int aM, .long aC, .int mM, .long mQ, .int oV, .int u_r_59, .int lI, .int sW, .int dP, .int sT, .long aT, .int 0, .int iW, .ref mI, .ref mJ, .ref mS, .ref mD, .int iH, .int aE, .int mN, .long sZ, .ref mX, .int tS, .int tA, .int tW, .ref mA, .ref mB, .ref mW, .ref mL, .int lS]))] H := hP
                        have hD : va_D A [(mH, .inl (cI, 512, .inl fH)), (mI, .inl (cL, 1200, .inr (.inl fI))), (mJ, .inl (cI, 4, .inl (k4i j0 j1 j2 j3))), (mS, .inl (cI, 4, .inl (k4i s0 s1 s2 s3))), (mD, .inl (cL, 256, .inr (.inl fD))), (m0, .inr (8, [.ref mH, .int aM, .long aC, .int mM, .long mQ, .int oV, .int u_r_59, .int lI, .int sW, .int dP, .int sT, .long aT, .int 0, .int iW, .ref mI, .ref mJ, .ref mS, .ref mD, .int iH, .int aE, .int mN, .long sZ, .ref mX, .int tS, .int tA, .int tW, .ref mA, .ref mB, .ref mW, .ref mL, .int lS]))] := hD
                        try dsimp only at wr_59
                        try simp only [Int32.reduceToInt, Int64.reduceToInt] at wr_59
                        refine lv_iconst (v := 0) hx hb dX8_copies_269 (by decide) ?_
                        refine kIret (u := (u_r_59, dP, 0, iW, fH, fD, fI, j0, j1, j2, j3, s0, s1, s2, s3)) hx hb hr rfl hlocks hS dX8_copies_270 ?_ (hP.sub [5, 0, 1, 2, 3, 4] rfl) (hD.sub [5, 0, 1, 2, 3, 4] (by decide) rfl)
                        try dsimp only
                        try simp only [Int32.reduceToInt, Int64.reduceToInt, true_or, or_true, true_and, and_true]
                        try rw [← ex_54] at hk8
                        repeat' apply And.intro
                        all_goals first | assumption | omega
                    · have t_234_55 := c_234_55
                      try simp only [kb_eq0, kb_ne0, lg_cmp_lt, lg_cmp_le, lg_cmp_gt, lg_cmp_ge, lg_cmp_eq] at t_234_55
                      try simp only [Int32.lt_iff_toInt_lt, Int32.le_iff_toInt_le, ← Int32.toInt_inj, Int64.lt_iff_toInt_lt, Int64.le_iff_toInt_le, ← Int64.toInt_inj, Int32.toInt_toInt64, Int32.reduceToInt, Int64.reduceToInt] at t_234_55
                      refine lv_aload_n hx hb dX8_copies_237 rfl (lv_at hl 4 rfl) ?_
                      refine lv_lload hx hb dX8_copies_238 (lv_at hl 0 rfl) ?_
                      refine kCallVd (wr := [(mI, .inl (cL, 1200, .inr (.inl fI))), (mJ, .inl (cI, 4, .inl (k4i j0 j1 j2 j3))), (mS, .inl (cI, 4, .inl (k4i s0 s1 s2 s3))), (mD, .inl (cL, 256, .inr (.inl fD)))]) (va_runV (As := [.long x_54]) (rest := []) ⟨hx, hb, hml, hown, hts⟩ (q_store l D cI cL cB cZ cT _ m0 mH mI mJ mS mD mX mA mB mW mL aM aC mM mQ oV pL lI sW dP sT aT 2 iW iH aE mN sZ tS tA tW lS fH x_54 (by omega)) (cwV 1 hts gX8_copies_X8_store rfl rfl rfl (by decide +kernel) ⟨Nat.le_of_ble_eq_true rfl, Nat.le_of_ble_eq_true rfl⟩) (kPreV hG hP hD [0, 1] rfl (by decide) 0 8 rfl rfl rfl) rfl rfl hl.1 rfl (lv_room (Nat.le_of_ble_eq_true rfl)) dX8_copies_240 ⟨Nat.le_of_ble_eq_true rfl, Nat.le_of_ble_eq_true rfl⟩) hA hP hD hS [0, 1] [2, 3, 4, 5] rfl rfl (by decide) (by decide) (fun _ u_r_60 H locs wr_60 hP hD hS => ?_)
                      have hP : va_P D vwCl [(mI, .inl (cL, 1200, .inr (.inl fI))), (mJ, .inl (cI, 4, .inl (k4i j0 j1 j2 j3))), (mS, .inl (cI, 4, .inl (k4i s0 s1 s2 s3))), (mD, .inl (cL, 256, .inr (.inl fD))), (m0, .inr (8, [.ref mH, .int aM, .long aC, .int mM, .long mQ, .int oV, .int pL, .int lI, .int sW, .int dP, .int sT, .long aT, .int 2, .int iW, .ref mI, .ref mJ, .ref mS, .ref mD, .int iH, .int aE, .int mN, .long sZ, .ref mX, .int tS, .int tA, .int tW, .ref mA, .ref mB, .ref mW, .ref mL, .int lS])), (mH, .inl (cI, 512, .inl u_r_60))] H := hP
                      have hD : va_D A [(mI, .inl (cL, 1200, .inr (.inl fI))), (mJ, .inl (cI, 4, .inl (k4i j0 j1 j2 j3))), (mS, .inl (cI, 4, .inl (k4i s0 s1 s2 s3))), (mD, .inl (cL, 256, .inr (.inl fD))), (m0, .inr (8, [.ref mH, .int aM, .long aC, .int mM, .long mQ, .int oV, .int pL, .int lI, .int sW, .int dP, .int sT, .long aT, .int 2, .int iW, .ref mI, .ref mJ, .ref mS, .ref mD, .int iH, .int aE, .int mN, .long sZ, .ref mX, .int tS, .int tA, .int tW, .ref mA, .ref mB, .ref mW, .ref mL, .int lS])), (mH, .inl (cI, 512, .inl u_r_60))] := hD
                      try dsimp only at wr_60
                      try simp only [Int32.reduceToInt, Int64.reduceToInt] at wr_60
                      refine lv_goto (tgt := 269) hx hb dX8_copies_243 (by decide) ?_
                      refine lv_iconst (v := 0) hx hb dX8_copies_269 (by decide) ?_
                      refine kIret (u := (pL, dP, 2, iW, u_r_60, fD, fI, j0, j1, j2, j3, s0, s1, s2, s3)) hx hb hr rfl hlocks hS dX8_copies_270 ?_ (hP.sub [4, 5, 0, 1, 2, 3] rfl) (hD.sub [4, 5, 0, 1, 2, 3] (by decide) rfl)
                      try dsimp only
                      try simp only [Int32.reduceToInt, Int64.reduceToInt, true_or, or_true, true_and, and_true]
                      try rw [← ex_54] at hk8
                      repeat' apply And.intro
                      all_goals first | assumption | omega
                  · have t_209_54 := c_209_54
                    try simp only [kb_eq0, kb_ne0, lg_cmp_lt, lg_cmp_le, lg_cmp_gt, lg_cmp_ge, lg_cmp_eq] at t_209_54
                    try simp only [Int32.lt_iff_toInt_lt, Int32.le_iff_toInt_le, ← Int32.toInt_inj, Int64.lt_iff_toInt_lt, Int64.le_iff_toInt_le, ← Int64.toInt_inj, Int32.toInt_toInt64, Int32.reduceToInt, Int64.reduceToInt] at t_209_54
                    refine lv_aload_n hx hb dX8_copies_212 rfl (lv_at hl 4 rfl) ?_
                    refine va_get (D := D) (ci := 8) (v := .ref mS) (C := RX8) (T := TX8) (N := 31) hx hb hts iX8_copies_X8 hown hK hP 0 rfl rfl 16 (by decide) (hts (.fieldLink RX8 20 "TapeCalculatorModel" "stands" "[I") (List.mem_of_getElem? (i := 5) rfl)) (fun _ h9 => h9) rfl dX8_copies_213 ?_
                    refine lv_iload_n hx hb dX8_copies_216 rfl (lv_at hl 2 rfl) ?_
                    refine lv_dup2_11 hx hb dX8_copies_217 rfl rfl ?_
                    refine va_iald hx hb hK hP 4 0 rfl rfl (vp_in_iff.mpr (by decide)) dX8_copies_218 ?_
                    refine lv_topi (fun x_61 ex_61 => ?_)
                    obtain rfl : s1 = x_61 := ex_61.symm
                    refine lv_iload_n hx hb dX8_copies_219 rfl (lv_at hl 3 rfl) ?_
                    refine lv_if_eq (tgt := 227) hx hb dX8_copies_220 (by decide) (fun c_220_61 => ?_) (fun c_220_61 => ?_)
                    · have t_220_61 := c_220_61
                      try simp only [kb_eq0, kb_ne0, lg_cmp_lt, lg_cmp_le, lg_cmp_gt, lg_cmp_ge, lg_cmp_eq] at t_220_61
                      try simp only [Int32.lt_iff_toInt_lt, Int32.le_iff_toInt_le, ← Int32.toInt_inj, Int64.lt_iff_toInt_lt, Int64.le_iff_toInt_le, ← Int64.toInt_inj, Int32.toInt_toInt64, Int32.reduceToInt, Int64.reduceToInt] at t_220_61
                      refine lv_iconst (v := 1) hx hb dX8_copies_227 (by decide) ?_
                      refine lv_iadd hx hb dX8_copies_228 ?_
                      refine va_iast hx hb hK hP hD hS 4 0 rfl rfl (vp_in_iff.mpr (by decide)) dX8_copies_229 (fun H locs hP hD hS => ?_)
                      rw [k4i_1] at hP hD
                      have hP : va_P D vwCl [(m0, .inr (8, [.ref mH, .int aM, .long aC, .int mM, .long mQ, .int oV, .int pL, .int lI, .int sW, .int dP, .int sT, .long aT, .int 2, .int iW, .ref mI, .ref mJ, .ref mS, .ref mD, .int iH, .int aE, .int mN, .long sZ, .ref mX, .int tS, .int tA, .int tW, .ref mA, .ref mB, .ref mW, .ref mL, .int lS])), (mH, .inl (cI, 512, .inl fH)), (mI, .inl (cL, 1200, .inr (.inl fI))), (mJ, .inl (cI, 4, .inl (k4i j0 j1 j2 j3))), (mS, .inl (cI, 4, .inl (k4i s0 (s1 + 1) s2 s3))), (mD, .inl (cL, 256, .inr (.inl fD)))] H := hP
                      have hD : va_D A [(m0, .inr (8, [.ref mH, .int aM, .long aC, .int mM, .long mQ, .int oV, .int pL, .int lI, .int sW, .int dP, .int sT, .long aT, .int 2, .int iW, .ref mI, .ref mJ, .ref mS, .ref mD, .int iH, .int aE, .int mN, .long sZ, .ref mX, .int tS, .int tA, .int tW, .ref mA, .ref mB, .ref mW, .ref mL, .int lS])), (mH, .inl (cI, 512, .inl fH)), (mI, .inl (cL, 1200, .inr (.inl fI))), (mJ, .inl (cI, 4, .inl (k4i j0 j1 j2 j3))), (mS, .inl (cI, 4, .inl (k4i s0 (s1 + 1) s2 s3))), (mD, .inl (cL, 256, .inr (.inl fD)))] := hD
                      refine lv_lload hx hb dX8_copies_230 (lv_at hl 0 rfl) ?_
                      refine lv_lconst (v := 0) hx hb dX8_copies_232 (by decide) ?_
                      refine W.lcmp hx hb dX8_copies_233 ?_
                      refine lv_if_lt (tgt := 246) hx hb dX8_copies_234 (by decide) (fun c_234_62 => ?_) (fun c_234_62 => ?_)
                      · have t_234_62 := c_234_62
                        try simp only [kb_eq0, kb_ne0, lg_cmp_lt, lg_cmp_le, lg_cmp_gt, lg_cmp_ge, lg_cmp_eq] at t_234_62
                        try simp only [Int32.lt_iff_toInt_lt, Int32.le_iff_toInt_le, ← Int32.toInt_inj, Int64.lt_iff_toInt_lt, Int64.le_iff_toInt_le, ← Int64.toInt_inj, Int32.toInt_toInt64, Int32.reduceToInt, Int64.reduceToInt] at t_234_62
                        refine lv_aload_n hx hb dX8_copies_246 rfl (lv_at hl 4 rfl) ?_
                        refine lv_iconst (v := 0) hx hb dX8_copies_247 (by decide) ?_
                        refine va_put (D := D) (ci := 8) (v := .int 0) (ty := .int) (C := RX8) (T := TX8) (N := 31) hx hb hts iX8_copies_X8 tyX8 tyX8_ok nmX8 hown hK hP hD hS 0 rfl rfl 12 (by decide) (hts (.fieldLink RX8 43 "TapeCalculatorModel" "chosen" "I") (List.mem_of_getElem? (i := 1) rfl)) (fun _ h9 => h9) rfl (by decide +kernel) rfl rfl (Nat.le_of_ble_eq_true rfl) dX8_copies_248 (fun H locs hP hD hS => ?_)
                        have hP : va_P D vwCl [(m0, .inr (8, [.ref mH, .int aM, .long aC, .int mM, .long mQ, .int oV, .int pL, .int lI, .int sW, .int dP, .int sT, .long aT, .int 0, .int iW, .ref mI, .ref mJ, .ref mS, .ref mD, .int iH, .int aE, .int mN, .long sZ, .ref mX, .int tS, .int tA, .int tW, .ref mA, .ref mB, .ref mW, .ref mL, .int lS])), (mH, .inl (cI, 512, .inl fH)), (mI, .inl (cL, 1200, .inr (.inl fI))), (mJ, .inl (cI, 4, .inl (k4i j0 j1 j2 j3))), (mS, .inl (cI, 4, .inl (k4i s0 (s1 + 1) s2 s3))), (mD, .inl (cL, 256, .inr (.inl fD)))] H := hP
                        have hD : va_D A [(m0, .inr (8, [.ref mH, .int aM, .long aC, .int mM, .long mQ, .int oV, .int pL, .int lI, .int sW, .int dP, .int sT, .long aT, .int 0, .int iW, .ref mI, .ref mJ, .ref mS, .ref mD, .int iH, .int aE, .int mN, .long sZ, .ref mX, .int tS, .int tA, .int tW, .ref mA, .ref mB, .ref mW, .ref mL, .int lS])), (mH, .inl (cI, 512, .inl fH)), (mI, .inl (cL, 1200, .inr (.inl fI))), (mJ, .inl (cI, 4, .inl (k4i j0 j1 j2 j3))), (mS, .inl (cI, 4, .inl (k4i s0 (s1 + 1) s2 s3))), (mD, .inl (cL, 256, .inr (.inl fD)))] := hD
                        refine lv_aload_n hx hb dX8_copies_251 rfl (lv_at hl 4 rfl) ?_
                        refine lv_lload hx hb dX8_copies_252 (lv_at hl 0 rfl) ?_
                        refine lv_ldc2 (v := (-2)) hx hb hown (hts (.constantLong RX8 111 (-2)) (List.mem_of_getElem? (i := 9) rfl)) dX8_copies_254 ?_
                        refine W.lcmp hx hb dX8_copies_257 ?_
                        refine lv_if_ne (tgt := 265) hx hb dX8_copies_258 (by decide) (fun c_258_63 => ?_) (fun c_258_63 => ?_)
                        · have t_258_63 := c_258_63
                          try simp only [kb_eq0, kb_ne0, lg_cmp_lt, lg_cmp_le, lg_cmp_gt, lg_cmp_ge, lg_cmp_eq] at t_258_63
                          try simp only [Int32.lt_iff_toInt_lt, Int32.le_iff_toInt_le, ← Int32.toInt_inj, Int64.lt_iff_toInt_lt, Int64.le_iff_toInt_le, ← Int64.toInt_inj, Int32.toInt_toInt64, Int32.reduceToInt, Int64.reduceToInt] at t_258_63
                          refine lv_iconst (v := 1) hx hb dX8_copies_265 (by decide) ?_
                          refine kCallVd (wr := [(mH, .inl (cI, 512, .inl fH)), (mI, .inl (cL, 1200, .inr (.inl fI))), (mJ, .inl (cI, 4, .inl (k4i j0 j1 j2 j3))), (mS, .inl (cI, 4, .inl (k4i s0 (s1 + 1) s2 s3))), (mD, .inl (cL, 256, .inr (.inl fD)))]) (va_runV (As := [.int 1]) (rest := []) ⟨hx, hb, hml, hown, hts⟩ (q_go l D cI cL cB cZ cT _ m0 mH mI mJ mS mD mX mA mB mW mL aM aC mM mQ oV pL lI sW dP sT aT 0 iW iH aE mN sZ tS tA tW lS 1) (cwV 1 hts gX8_copies_X8_go rfl rfl rfl (by decide +kernel) ⟨Nat.le_of_ble_eq_true rfl, Nat.le_of_ble_eq_true rfl⟩) (kPreV hG hP hD [0] rfl (by decide) 0 8 rfl rfl rfl) rfl rfl hl.1 rfl (lv_room (Nat.le_of_ble_eq_true rfl)) dX8_copies_266 ⟨Nat.le_of_ble_eq_true rfl, Nat.le_of_ble_eq_true rfl⟩) hA hP hD hS [0] [1, 2, 3, 4, 5] rfl rfl (by decide) (by decide) (fun _ u_r_65 H locs wr_65 hP hD hS => ?_)
                          have hP : va_P D vwCl [(mH, .inl (cI, 512, .inl fH)), (mI, .inl (cL, 1200, .inr (.inl fI))), (mJ, .inl (cI, 4, .inl (k4i j0 j1 j2 j3))), (mS, .inl (cI, 4, .inl (k4i s0 (s1 + 1) s2 s3))), (mD, .inl (cL, 256, .inr (.inl fD))), (m0, .inr (8, [.ref mH, .int aM, .long aC, .int mM, .long mQ, .int oV, .int u_r_65, .int lI, .int sW, .int dP, .int sT, .long aT, .int 0, .int iW, .ref mI, .ref mJ, .ref mS, .ref mD, .int iH, .int aE, .int mN, .long sZ, .ref mX, .int tS, .int tA, .int tW, .ref mA, .ref mB, .ref mW, .ref mL, .int lS]))] H := hP
                          have hD : va_D A [(mH, .inl (cI, 512, .inl fH)), (mI, .inl (cL, 1200, .inr (.inl fI))), (mJ, .inl (cI, 4, .inl (k4i j0 j1 j2 j3))), (mS, .inl (cI, 4, .inl (k4i s0 (s1 + 1) s2 s3))), (mD, .inl (cL, 256, .inr (.inl fD))), (m0, .inr (8, [.ref mH, .int aM, .long aC, .int mM, .long mQ, .int oV, .int u_r_65, .int lI, .int sW, .int dP, .int sT, .long aT, .int 0, .int iW, .ref mI, .ref mJ, .ref mS, .ref mD, .int iH, .int aE, .int mN, .long sZ, .ref mX, .int tS, .int tA, .int tW, .ref mA, .ref mB, .ref mW, .ref mL, .int lS]))] := hD
                          try dsimp only at wr_65
                          try simp only [Int32.reduceToInt, Int64.reduceToInt] at wr_65
                          refine lv_iconst (v := 0) hx hb dX8_copies_269 (by decide) ?_
                          refine kIret (u := (u_r_65, dP, 0, iW, fH, fD, fI, j0, j1, j2, j3, s0, (s1 + 1), s2, s3)) hx hb hr rfl hlocks hS dX8_copies_270 ?_ (hP.sub [5, 0, 1, 2, 3, 4] rfl) (hD.sub [5, 0, 1, 2, 3, 4] (by decide) rfl)
                          try dsimp only
                          try simp only [Int32.reduceToInt, Int64.reduceToInt, true_or, or_true, true_and, and_true]
                          try rw [← ex_54] at hk8
                          repeat' apply And.intro
                          all_goals first | assumption | omega
                        · have t_258_63 := c_258_63
                          try simp only [kb_eq0, kb_ne0, lg_cmp_lt, lg_cmp_le, lg_cmp_gt, lg_cmp_ge, lg_cmp_eq] at t_258_63
                          try simp only [Int32.lt_iff_toInt_lt, Int32.le_iff_toInt_le, ← Int32.toInt_inj, Int64.lt_iff_toInt_lt, Int64.le_iff_toInt_le, ← Int64.toInt_inj, Int32.toInt_toInt64, Int32.reduceToInt, Int64.reduceToInt] at t_258_63
                          refine lv_iconst (v := 2) hx hb dX8_copies_261 (by decide) ?_
                          refine lv_goto (tgt := 266) hx hb dX8_copies_262 (by decide) ?_
                          refine kCallVd (wr := [(mH, .inl (cI, 512, .inl fH)), (mI, .inl (cL, 1200, .inr (.inl fI))), (mJ, .inl (cI, 4, .inl (k4i j0 j1 j2 j3))), (mS, .inl (cI, 4, .inl (k4i s0 (s1 + 1) s2 s3))), (mD, .inl (cL, 256, .inr (.inl fD)))]) (va_runV (As := [.int 2]) (rest := []) ⟨hx, hb, hml, hown, hts⟩ (q_go l D cI cL cB cZ cT _ m0 mH mI mJ mS mD mX mA mB mW mL aM aC mM mQ oV pL lI sW dP sT aT 0 iW iH aE mN sZ tS tA tW lS 2) (cwV 1 hts gX8_copies_X8_go rfl rfl rfl (by decide +kernel) ⟨Nat.le_of_ble_eq_true rfl, Nat.le_of_ble_eq_true rfl⟩) (kPreV hG hP hD [0] rfl (by decide) 0 8 rfl rfl rfl) rfl rfl hl.1 rfl (lv_room (Nat.le_of_ble_eq_true rfl)) dX8_copies_266 ⟨Nat.le_of_ble_eq_true rfl, Nat.le_of_ble_eq_true rfl⟩) hA hP hD hS [0] [1, 2, 3, 4, 5] rfl rfl (by decide) (by decide) (fun _ u_r_66 H locs wr_66 hP hD hS => ?_)
                          have hP : va_P D vwCl [(mH, .inl (cI, 512, .inl fH)), (mI, .inl (cL, 1200, .inr (.inl fI))), (mJ, .inl (cI, 4, .inl (k4i j0 j1 j2 j3))), (mS, .inl (cI, 4, .inl (k4i s0 (s1 + 1) s2 s3))), (mD, .inl (cL, 256, .inr (.inl fD))), (m0, .inr (8, [.ref mH, .int aM, .long aC, .int mM, .long mQ, .int oV, .int u_r_66, .int lI, .int sW, .int dP, .int sT, .long aT, .int 0, .int iW, .ref mI, .ref mJ, .ref mS, .ref mD, .int iH, .int aE, .int mN, .long sZ, .ref mX, .int tS, .int tA, .int tW, .ref mA, .ref mB, .ref mW, .ref mL, .int lS]))] H := hP
                          have hD : va_D A [(mH, .inl (cI, 512, .inl fH)), (mI, .inl (cL, 1200, .inr (.inl fI))), (mJ, .inl (cI, 4, .inl (k4i j0 j1 j2 j3))), (mS, .inl (cI, 4, .inl (k4i s0 (s1 + 1) s2 s3))), (mD, .inl (cL, 256, .inr (.inl fD))), (m0, .inr (8, [.ref mH, .int aM, .long aC, .int mM, .long mQ, .int oV, .int u_r_66, .int lI, .int sW, .int dP, .int sT, .long aT, .int 0, .int iW, .ref mI, .ref mJ, .ref mS, .ref mD, .int iH, .int aE, .int mN, .long sZ, .ref mX, .int tS, .int tA, .int tW, .ref mA, .ref mB, .ref mW, .ref mL, .int lS]))] := hD
                          try dsimp only at wr_66
                          try simp only [Int32.reduceToInt, Int64.reduceToInt] at wr_66
                          refine lv_iconst (v := 0) hx hb dX8_copies_269 (by decide) ?_
                          refine kIret (u := (u_r_66, dP, 0, iW, fH, fD, fI, j0, j1, j2, j3, s0, (s1 + 1), s2, s3)) hx hb hr rfl hlocks hS dX8_copies_270 ?_ (hP.sub [5, 0, 1, 2, 3, 4] rfl) (hD.sub [5, 0, 1, 2, 3, 4] (by decide) rfl)
                          try dsimp only
                          try simp only [Int32.reduceToInt, Int64.reduceToInt, true_or, or_true, true_and, and_true]
                          try rw [← ex_54] at hk8
                          repeat' apply And.intro
                          all_goals first | assumption | omega
                      · have t_234_62 := c_234_62
                        try simp only [kb_eq0, kb_ne0, lg_cmp_lt, lg_cmp_le, lg_cmp_gt, lg_cmp_ge, lg_cmp_eq] at t_234_62
                        try simp only [Int32.lt_iff_toInt_lt, Int32.le_iff_toInt_le, ← Int32.toInt_inj, Int64.lt_iff_toInt_lt, Int64.le_iff_toInt_le, ← Int64.toInt_inj, Int32.toInt_toInt64, Int32.reduceToInt, Int64.reduceToInt] at t_234_62
                        refine lv_aload_n hx hb dX8_copies_237 rfl (lv_at hl 4 rfl) ?_
                        refine lv_lload hx hb dX8_copies_238 (lv_at hl 0 rfl) ?_
                        refine kCallVd (wr := [(mI, .inl (cL, 1200, .inr (.inl fI))), (mJ, .inl (cI, 4, .inl (k4i j0 j1 j2 j3))), (mS, .inl (cI, 4, .inl (k4i s0 (s1 + 1) s2 s3))), (mD, .inl (cL, 256, .inr (.inl fD)))]) (va_runV (As := [.long x_54]) (rest := []) ⟨hx, hb, hml, hown, hts⟩ (q_store l D cI cL cB cZ cT _ m0 mH mI mJ mS mD mX mA mB mW mL aM aC mM mQ oV pL lI sW dP sT aT 2 iW iH aE mN sZ tS tA tW lS fH x_54 (by omega)) (cwV 1 hts gX8_copies_X8_store rfl rfl rfl (by decide +kernel) ⟨Nat.le_of_ble_eq_true rfl, Nat.le_of_ble_eq_true rfl⟩) (kPreV hG hP hD [0, 1] rfl (by decide) 0 8 rfl rfl rfl) rfl rfl hl.1 rfl (lv_room (Nat.le_of_ble_eq_true rfl)) dX8_copies_240 ⟨Nat.le_of_ble_eq_true rfl, Nat.le_of_ble_eq_true rfl⟩) hA hP hD hS [0, 1] [2, 3, 4, 5] rfl rfl (by decide) (by decide) (fun _ u_r_67 H locs wr_67 hP hD hS => ?_)
                        have hP : va_P D vwCl [(mI, .inl (cL, 1200, .inr (.inl fI))), (mJ, .inl (cI, 4, .inl (k4i j0 j1 j2 j3))), (mS, .inl (cI, 4, .inl (k4i s0 (s1 + 1) s2 s3))), (mD, .inl (cL, 256, .inr (.inl fD))), (m0, .inr (8, [.ref mH, .int aM, .long aC, .int mM, .long mQ, .int oV, .int pL, .int lI, .int sW, .int dP, .int sT, .long aT, .int 2, .int iW, .ref mI, .ref mJ, .ref mS, .ref mD, .int iH, .int aE, .int mN, .long sZ, .ref mX, .int tS, .int tA, .int tW, .ref mA, .ref mB, .ref mW, .ref mL, .int lS])), (mH, .inl (cI, 512, .inl u_r_67))] H := hP
                        have hD : va_D A [(mI, .inl (cL, 1200, .inr (.inl fI))), (mJ, .inl (cI, 4, .inl (k4i j0 j1 j2 j3))), (mS, .inl (cI, 4, .inl (k4i s0 (s1 + 1) s2 s3))), (mD, .inl (cL, 256, .inr (.inl fD))), (m0, .inr (8, [.ref mH, .int aM, .long aC, .int mM, .long mQ, .int oV, .int pL, .int lI, .int sW, .int dP, .int sT, .long aT, .int 2, .int iW, .ref mI, .ref mJ, .ref mS, .ref mD, .int iH, .int aE, .int mN, .long sZ, .ref mX, .int tS, .int tA, .int tW, .ref mA, .ref mB, .ref mW, .ref mL, .int lS])), (mH, .inl (cI, 512, .inl u_r_67))] := hD
                        try dsimp only at wr_67
                        try simp only [Int32.reduceToInt, Int64.reduceToInt] at wr_67
                        refine lv_goto (tgt := 269) hx hb dX8_copies_243 (by decide) ?_
                        refine lv_iconst (v := 0) hx hb dX8_copies_269 (by decide) ?_
                        refine kIret (u := (pL, dP, 2, iW, u_r_67, fD, fI, j0, j1, j2, j3, s0, (s1 + 1), s2, s3)) hx hb hr rfl hlocks hS dX8_copies_270 ?_ (hP.sub [4, 5, 0, 1, 2, 3] rfl) (hD.sub [4, 5, 0, 1, 2, 3] (by decide) rfl)
                        try dsimp only
                        try simp only [Int32.reduceToInt, Int64.reduceToInt, true_or, or_true, true_and, and_true]
                        try rw [← ex_54] at hk8
                        repeat' apply And.intro
                        all_goals first | assumption | omega
                    · exact absurd (by decide) c_220_61
              · exact absurd (by decide) c_144_40
            · exact absurd (by decide) c_124_38
          · exact absurd (by decide) c_114_37
        · exact absurd (by decide) c_79_36
      · exact absurd (by decide) c_16_35
    · exact absurd c_4_34 (by decide)
  · have hk8 := k_and (x := dP + 1) (m := 255) 8 (by decide) (by decide)
    have hs0 := k_sub (a := j2) (b := 1) (by omega) (by decide)
    simp only [Int32.reduceToInt] at hs0
    have hs1 := k_sub (a := s2) (b := 1) (by omega) (by decide)
    simp only [Int32.reduceToInt] at hs1
    have hs2 := k_addg (a := s2) (b := 1) (by omega) (by decide)
    have hs3 := k_addg (a := s2) (b := (-1)) (by omega) (by decide)
    simp only [Int32.reduceToInt, show (-1 : Int32).toInt = -1 from rfl] at hs2 hs3
    refine lv_aload_n hx hb dX8_copies_0 rfl (lv_at hl 0 rfl) ?_
    refine va_get (D := D) (ci := 8) (v := .int 3) (C := RX8) (T := TX8) (N := 31) hx hb hts iX8_copies_X8 hown hK hP 0 rfl rfl 12 (by decide) (hts (.fieldLink RX8 43 "TapeCalculatorModel" "chosen" "I") (List.mem_of_getElem? (i := 1) rfl)) (fun _ h9 => h9) rfl dX8_copies_1 ?_
    refine lv_if_ne (tgt := 10) hx hb dX8_copies_4 (by decide) (fun c_4_67 => ?_) (fun c_4_67 => ?_)
    · have t_4_67 := c_4_67
      try simp only [kb_eq0, kb_ne0, lg_cmp_lt, lg_cmp_le, lg_cmp_gt, lg_cmp_ge, lg_cmp_eq] at t_4_67
      try simp only [Int32.lt_iff_toInt_lt, Int32.le_iff_toInt_le, ← Int32.toInt_inj, Int64.lt_iff_toInt_lt, Int64.le_iff_toInt_le, ← Int64.toInt_inj, Int32.toInt_toInt64, Int32.reduceToInt, Int64.reduceToInt] at t_4_67
      refine lv_aload_n hx hb dX8_copies_10 rfl (lv_at hl 0 rfl) ?_
      refine va_get (D := D) (ci := 8) (v := .int 3) (C := RX8) (T := TX8) (N := 31) hx hb hts iX8_copies_X8 hown hK hP 0 rfl rfl 12 (by decide) (hts (.fieldLink RX8 43 "TapeCalculatorModel" "chosen" "I") (List.mem_of_getElem? (i := 1) rfl)) (fun _ h9 => h9) rfl dX8_copies_11 ?_
      refine lv_bipush (v := 12) hx hb dX8_copies_14 (by decide) ?_
      refine lv_icmp_le (tgt := 73) hx hb dX8_copies_16 (by decide) (fun c_16_68 => ?_) (fun c_16_68 => ?_)
      · have t_16_68 := c_16_68
        try simp only [kb_eq0, kb_ne0, lg_cmp_lt, lg_cmp_le, lg_cmp_gt, lg_cmp_ge, lg_cmp_eq] at t_16_68
        try simp only [Int32.lt_iff_toInt_lt, Int32.le_iff_toInt_le, ← Int32.toInt_inj, Int64.lt_iff_toInt_lt, Int64.le_iff_toInt_le, ← Int64.toInt_inj, Int32.toInt_toInt64, Int32.reduceToInt, Int64.reduceToInt] at t_16_68
        refine lv_aload_n hx hb dX8_copies_73 rfl (lv_at hl 0 rfl) ?_
        refine va_get (D := D) (ci := 8) (v := .int 3) (C := RX8) (T := TX8) (N := 31) hx hb hts iX8_copies_X8 hown hK hP 0 rfl rfl 12 (by decide) (hts (.fieldLink RX8 43 "TapeCalculatorModel" "chosen" "I") (List.mem_of_getElem? (i := 1) rfl)) (fun _ h9 => h9) rfl dX8_copies_74 ?_
        refine lv_bipush (v := 8) hx hb dX8_copies_77 (by decide) ?_
        refine lv_icmp_le (tgt := 109) hx hb dX8_copies_79 (by decide) (fun c_79_69 => ?_) (fun c_79_69 => ?_)
        · have t_79_69 := c_79_69
          try simp only [kb_eq0, kb_ne0, lg_cmp_lt, lg_cmp_le, lg_cmp_gt, lg_cmp_ge, lg_cmp_eq] at t_79_69
          try simp only [Int32.lt_iff_toInt_lt, Int32.le_iff_toInt_le, ← Int32.toInt_inj, Int64.lt_iff_toInt_lt, Int64.le_iff_toInt_le, ← Int64.toInt_inj, Int32.toInt_toInt64, Int32.reduceToInt, Int64.reduceToInt] at t_79_69
          refine lv_aload_n hx hb dX8_copies_109 rfl (lv_at hl 0 rfl) ?_
          refine va_get (D := D) (ci := 8) (v := .int 3) (C := RX8) (T := TX8) (N := 31) hx hb hts iX8_copies_X8 hown hK hP 0 rfl rfl 12 (by decide) (hts (.fieldLink RX8 43 "TapeCalculatorModel" "chosen" "I") (List.mem_of_getElem? (i := 1) rfl)) (fun _ h9 => h9) rfl dX8_copies_110 ?_
          refine lv_iconst (v := 4) hx hb dX8_copies_113 (by decide) ?_
          refine lv_icmp_le (tgt := 121) hx hb dX8_copies_114 (by decide) (fun c_114_70 => ?_) (fun c_114_70 => ?_)
          · have t_114_70 := c_114_70
            try simp only [kb_eq0, kb_ne0, lg_cmp_lt, lg_cmp_le, lg_cmp_gt, lg_cmp_ge, lg_cmp_eq] at t_114_70
            try simp only [Int32.lt_iff_toInt_lt, Int32.le_iff_toInt_le, ← Int32.toInt_inj, Int64.lt_iff_toInt_lt, Int64.le_iff_toInt_le, ← Int64.toInt_inj, Int32.toInt_toInt64, Int32.reduceToInt, Int64.reduceToInt] at t_114_70
            refine lv_iconst (v := 0) hx hb dX8_copies_121 (by decide) ?_
            refine lv_istore_n (lv' := [(1, .int 0), (0, .ref m0)]) hx hb dX8_copies_122 rfl hl (by decide) rfl (fun ls hl => ?_)
            refine lv_iload_n hx hb dX8_copies_123 rfl (lv_at hl 0 rfl) ?_
            refine lv_if_eq (tgt := 136) hx hb dX8_copies_124 (by decide) (fun c_124_71 => ?_) (fun c_124_71 => ?_)
            · have t_124_71 := c_124_71
              try simp only [kb_eq0, kb_ne0, lg_cmp_lt, lg_cmp_le, lg_cmp_gt, lg_cmp_ge, lg_cmp_eq] at t_124_71
              try simp only [Int32.lt_iff_toInt_lt, Int32.le_iff_toInt_le, ← Int32.toInt_inj, Int64.lt_iff_toInt_lt, Int64.le_iff_toInt_le, ← Int64.toInt_inj, Int32.toInt_toInt64, Int32.reduceToInt, Int64.reduceToInt] at t_124_71
              refine lv_aload_n hx hb dX8_copies_136 rfl (lv_at hl 1 rfl) ?_
              refine va_get (D := D) (ci := 8) (v := .int 3) (C := RX8) (T := TX8) (N := 31) hx hb hts iX8_copies_X8 hown hK hP 0 rfl rfl 12 (by decide) (hts (.fieldLink RX8 43 "TapeCalculatorModel" "chosen" "I") (List.mem_of_getElem? (i := 1) rfl)) (fun _ h9 => h9) rfl dX8_copies_137 ?_
              refine lv_iconst (v := 1) hx hb dX8_copies_140 (by decide) ?_
              refine lv_isub hx hb dX8_copies_141 ?_
              refine lv_topi (fun x_73 ex_73 => ?_)
              obtain rfl : x_73 = 2 := ex_73.trans (by decide)
              refine lv_istore_n (lv' := [(2, .int 2), (1, .int 0), (0, .ref m0)]) hx hb dX8_copies_142 rfl hl (by decide) rfl (fun ls hl => ?_)
              refine lv_iload_n hx hb dX8_copies_143 rfl (lv_at hl 1 rfl) ?_
              refine lv_if_eq (tgt := 158) hx hb dX8_copies_144 (by decide) (fun c_144_73 => ?_) (fun c_144_73 => ?_)
              · have t_144_73 := c_144_73
                try simp only [kb_eq0, kb_ne0, lg_cmp_lt, lg_cmp_le, lg_cmp_gt, lg_cmp_ge, lg_cmp_eq] at t_144_73
                try simp only [Int32.lt_iff_toInt_lt, Int32.le_iff_toInt_le, ← Int32.toInt_inj, Int64.lt_iff_toInt_lt, Int64.le_iff_toInt_le, ← Int64.toInt_inj, Int32.toInt_toInt64, Int32.reduceToInt, Int64.reduceToInt] at t_144_73
                refine lv_aload_n hx hb dX8_copies_158 rfl (lv_at hl 2 rfl) ?_
                refine va_get (D := D) (ci := 8) (v := .ref mS) (C := RX8) (T := TX8) (N := 31) hx hb hts iX8_copies_X8 hown hK hP 0 rfl rfl 16 (by decide) (hts (.fieldLink RX8 20 "TapeCalculatorModel" "stands" "[I") (List.mem_of_getElem? (i := 5) rfl)) (fun _ h9 => h9) rfl dX8_copies_159 ?_
                refine lv_iload_n hx hb dX8_copies_162 rfl (lv_at hl 0 rfl) ?_
                refine va_iald hx hb hK hP 4 0 rfl rfl (vp_in_iff.mpr (by decide)) dX8_copies_163 ?_
                refine lv_topi (fun x_75 ex_75 => ?_)
                obtain rfl : s2 = x_75 := ex_75.symm
                refine lv_istore_n (lv' := [(3, .int s2), (2, .int 2), (1, .int 0), (0, .ref m0)]) hx hb dX8_copies_164 rfl hl (by decide) rfl (fun ls hl => ?_)
                refine lv_iload_n hx hb dX8_copies_165 rfl (lv_at hl 0 rfl) ?_
                refine lv_i2l hx hb dX8_copies_166 rfl ?_
                refine lv_lconst (v := 0) hx hb dX8_copies_167 (by decide) ?_
                refine lv_aload_n hx hb dX8_copies_168 rfl (lv_at hl 3 rfl) ?_
                refine va_get (D := D) (ci := 8) (v := .ref mJ) (C := RX8) (T := TX8) (N := 31) hx hb hts iX8_copies_X8 hown hK hP 0 rfl rfl 15 (by decide) (hts (.fieldLink RX8 17 "TapeCalculatorModel" "items" "[I") (List.mem_of_getElem? (i := 6) rfl)) (fun _ h9 => h9) rfl dX8_copies_169 ?_
                refine lv_iload_n hx hb dX8_copies_172 rfl (lv_at hl 1 rfl) ?_
                refine va_iald hx hb hK hP 3 0 rfl rfl (vp_in_iff.mpr (by decide)) dX8_copies_173 ?_
                refine lv_topi (fun x_76 ex_76 => ?_)
                obtain rfl : j2 = x_76 := ex_76.symm
                refine lv_iconst (v := 1) hx hb dX8_copies_174 (by decide) ?_
                refine lv_isub hx hb dX8_copies_175 ?_
                refine lv_i2l hx hb dX8_copies_176 rfl ?_
                refine kCallI (wr := [(m0, .inr (8, [.ref mH, .int aM, .long aC, .int mM, .long mQ, .int oV, .int pL, .int lI, .int sW, .int dP, .int sT, .long aT, .int 3, .int iW, .ref mI, .ref mJ, .ref mS, .ref mD, .int iH, .int aE, .int mN, .long sZ, .ref mX, .int tS, .int tA, .int tW, .ref mA, .ref mB, .ref mW, .ref mL, .int lS])), (mH, .inl (cI, 512, .inl fH)), (mI, .inl (cL, 1200, .inr (.inl fI))), (mJ, .inl (cI, 4, .inl (k4i j0 j1 j2 j3))), (mS, .inl (cI, 4, .inl (k4i s0 s1 s2 s3))), (mD, .inl (cL, 256, .inr (.inl fD)))]) (va_runS (As := [.long s2.toInt64, .long 0, .long (j2 - 1).toInt64]) (rest := []) ⟨hx, hb, hml, hown, hts⟩ (q_in l D cI cL cB cZ cT _ (s2.toInt64) 0 (j2 - 1).toInt64) (va_cwS 3 hts gX8_copies_X8_in rfl rfl rfl (by decide +kernel) ⟨Nat.le_of_ble_eq_true rfl, Nat.le_of_ble_eq_true rfl⟩) (kPreS hG hP hD [] rfl (by decide)) rfl rfl hl.1 rfl (lv_room (Nat.le_of_ble_eq_true rfl)) dX8_copies_177 ⟨Nat.le_of_ble_eq_true rfl, Nat.le_of_ble_eq_true rfl⟩) hA hP hD hS [] [0, 1, 2, 3, 4, 5] rfl rfl (by decide) (by decide) (fun r_77 u_r_77 H locs wr_77 hP hD hS => ?_)
                have hP : va_P D vwCl [(m0, .inr (8, [.ref mH, .int aM, .long aC, .int mM, .long mQ, .int oV, .int pL, .int lI, .int sW, .int dP, .int sT, .long aT, .int 3, .int iW, .ref mI, .ref mJ, .ref mS, .ref mD, .int iH, .int aE, .int mN, .long sZ, .ref mX, .int tS, .int tA, .int tW, .ref mA, .ref mB, .ref mW, .ref mL, .int lS])), (mH, .inl (cI, 512, .inl fH)), (mI, .inl (cL, 1200, .inr (.inl fI))), (mJ, .inl (cI, 4, .inl (k4i j0 j1 j2 j3))), (mS, .inl (cI, 4, .inl (k4i s0 s1 s2 s3))), (mD, .inl (cL, 256, .inr (.inl fD)))] H := hP
                have hD : va_D A [(m0, .inr (8, [.ref mH, .int aM, .long aC, .int mM, .long mQ, .int oV, .int pL, .int lI, .int sW, .int dP, .int sT, .long aT, .int 3, .int iW, .ref mI, .ref mJ, .ref mS, .ref mD, .int iH, .int aE, .int mN, .long sZ, .ref mX, .int tS, .int tA, .int tW, .ref mA, .ref mB, .ref mW, .ref mL, .int lS])), (mH, .inl (cI, 512, .inl fH)), (mI, .inl (cL, 1200, .inr (.inl fI))), (mJ, .inl (cI, 4, .inl (k4i j0 j1 j2 j3))), (mS, .inl (cI, 4, .inl (k4i s0 s1 s2 s3))), (mD, .inl (cL, 256, .inr (.inl fD)))] := hD
                try dsimp only at wr_77
                subst wr_77
                refine lv_if_eq (tgt := 198) hx hb dX8_copies_180 (by decide) (fun c_180_77 => ?_) (fun c_180_77 => ?_)
                · have t_180_77 := c_180_77
                  try simp only [kb_eq0, kb_ne0, lg_cmp_lt, lg_cmp_le, lg_cmp_gt, lg_cmp_ge, lg_cmp_eq] at t_180_77
                  try simp only [Int32.lt_iff_toInt_lt, Int32.le_iff_toInt_le, ← Int32.toInt_inj, Int64.lt_iff_toInt_lt, Int64.le_iff_toInt_le, ← Int64.toInt_inj, Int32.toInt_toInt64, Int32.reduceToInt, Int64.reduceToInt] at t_180_77
                  refine lv_ldc2 (v := (-9)) hx hb hown (hts (.constantLong RX8 107 (-9)) (List.mem_of_getElem? (i := 8) rfl)) dX8_copies_198 ?_
                  refine lv_lstore (lv' := [(4, .long (-9)), (3, .int s2), (2, .int 2), (1, .int 0), (0, .ref m0)]) hx hb dX8_copies_201 hl (by decide) rfl (fun ls hl => ?_)
                  refine lv_lload hx hb dX8_copies_203 (lv_at hl 0 rfl) ?_
                  refine lv_ldc2 (v := (-9)) hx hb hown (hts (.constantLong RX8 107 (-9)) (List.mem_of_getElem? (i := 8) rfl)) dX8_copies_205 ?_
                  refine W.lcmp hx hb dX8_copies_208 ?_
                  refine lv_topi (fun x_79 ex_79 => ?_)
                  obtain rfl : x_79 = 0 := ex_79.trans (by decide)
                  refine lv_if_eq (tgt := 230) hx hb dX8_copies_209 (by decide) (fun c_209_79 => ?_) (fun c_209_79 => ?_)
                  · have t_209_79 := c_209_79
                    try simp only [kb_eq0, kb_ne0, lg_cmp_lt, lg_cmp_le, lg_cmp_gt, lg_cmp_ge, lg_cmp_eq] at t_209_79
                    try simp only [Int32.lt_iff_toInt_lt, Int32.le_iff_toInt_le, ← Int32.toInt_inj, Int64.lt_iff_toInt_lt, Int64.le_iff_toInt_le, ← Int64.toInt_inj, Int32.toInt_toInt64, Int32.reduceToInt, Int64.reduceToInt] at t_209_79
                    refine lv_lload hx hb dX8_copies_230 (lv_at hl 0 rfl) ?_
                    refine lv_lconst (v := 0) hx hb dX8_copies_232 (by decide) ?_
                    refine W.lcmp hx hb dX8_copies_233 ?_
                    refine lv_topi (fun x_81 ex_81 => ?_)
                    obtain rfl : x_81 = (-1) := ex_81.trans (by decide)
                    refine lv_if_lt (tgt := 246) hx hb dX8_copies_234 (by decide) (fun c_234_81 => ?_) (fun c_234_81 => ?_)
                    · have t_234_81 := c_234_81
                      try simp only [kb_eq0, kb_ne0, lg_cmp_lt, lg_cmp_le, lg_cmp_gt, lg_cmp_ge, lg_cmp_eq] at t_234_81
                      try simp only [Int32.lt_iff_toInt_lt, Int32.le_iff_toInt_le, ← Int32.toInt_inj, Int64.lt_iff_toInt_lt, Int64.le_iff_toInt_le, ← Int64.toInt_inj, Int32.toInt_toInt64, Int32.reduceToInt, Int64.reduceToInt] at t_234_81
                      refine lv_aload_n hx hb dX8_copies_246 rfl (lv_at hl 4 rfl) ?_
                      refine lv_iconst (v := 0) hx hb dX8_copies_247 (by decide) ?_
                      refine va_put (D := D) (ci := 8) (v := .int 0) (ty := .int) (C := RX8) (T := TX8) (N := 31) hx hb hts iX8_copies_X8 tyX8 tyX8_ok nmX8 hown hK hP hD hS 0 rfl rfl 12 (by decide) (hts (.fieldLink RX8 43 "TapeCalculatorModel" "chosen" "I") (List.mem_of_getElem? (i := 1) rfl)) (fun _ h9 => h9) rfl (by decide +kernel) rfl rfl (Nat.le_of_ble_eq_true rfl) dX8_copies_248 (fun H locs hP hD hS => ?_)
                      have hP : va_P D vwCl [(m0, .inr (8, [.ref mH, .int aM, .long aC, .int mM, .long mQ, .int oV, .int pL, .int lI, .int sW, .int dP, .int sT, .long aT, .int 0, .int iW, .ref mI, .ref mJ, .ref mS, .ref mD, .int iH, .int aE, .int mN, .long sZ, .ref mX, .int tS, .int tA, .int tW, .ref mA, .ref mB, .ref mW, .ref mL, .int lS])), (mH, .inl (cI, 512, .inl fH)), (mI, .inl (cL, 1200, .inr (.inl fI))), (mJ, .inl (cI, 4, .inl (k4i j0 j1 j2 j3))), (mS, .inl (cI, 4, .inl (k4i s0 s1 s2 s3))), (mD, .inl (cL, 256, .inr (.inl fD)))] H := hP
                      have hD : va_D A [(m0, .inr (8, [.ref mH, .int aM, .long aC, .int mM, .long mQ, .int oV, .int pL, .int lI, .int sW, .int dP, .int sT, .long aT, .int 0, .int iW, .ref mI, .ref mJ, .ref mS, .ref mD, .int iH, .int aE, .int mN, .long sZ, .ref mX, .int tS, .int tA, .int tW, .ref mA, .ref mB, .ref mW, .ref mL, .int lS])), (mH, .inl (cI, 512, .inl fH)), (mI, .inl (cL, 1200, .inr (.inl fI))), (mJ, .inl (cI, 4, .inl (k4i j0 j1 j2 j3))), (mS, .inl (cI, 4, .inl (k4i s0 s1 s2 s3))), (mD, .inl (cL, 256, .inr (.inl fD)))] := hD
                      refine lv_aload_n hx hb dX8_copies_251 rfl (lv_at hl 4 rfl) ?_
                      refine lv_lload hx hb dX8_copies_252 (lv_at hl 0 rfl) ?_
                      refine lv_ldc2 (v := (-2)) hx hb hown (hts (.constantLong RX8 111 (-2)) (List.mem_of_getElem? (i := 9) rfl)) dX8_copies_254 ?_
                      refine W.lcmp hx hb dX8_copies_257 ?_
                      refine lv_topi (fun x_83 ex_83 => ?_)
                      obtain rfl : x_83 = (-1) := ex_83.trans (by decide)
                      refine lv_if_ne (tgt := 265) hx hb dX8_copies_258 (by decide) (fun c_258_83 => ?_) (fun c_258_83 => ?_)
                      · have t_258_83 := c_258_83
                        try simp only [kb_eq0, kb_ne0, lg_cmp_lt, lg_cmp_le, lg_cmp_gt, lg_cmp_ge, lg_cmp_eq] at t_258_83
                        try simp only [Int32.lt_iff_toInt_lt, Int32.le_iff_toInt_le, ← Int32.toInt_inj, Int64.lt_iff_toInt_lt, Int64.le_iff_toInt_le, ← Int64.toInt_inj, Int32.toInt_toInt64, Int32.reduceToInt, Int64.reduceToInt] at t_258_83
                        refine lv_iconst (v := 1) hx hb dX8_copies_265 (by decide) ?_
                        refine kCallVd (wr := [(mH, .inl (cI, 512, .inl fH)), (mI, .inl (cL, 1200, .inr (.inl fI))), (mJ, .inl (cI, 4, .inl (k4i j0 j1 j2 j3))), (mS, .inl (cI, 4, .inl (k4i s0 s1 s2 s3))), (mD, .inl (cL, 256, .inr (.inl fD)))]) (va_runV (As := [.int 1]) (rest := []) ⟨hx, hb, hml, hown, hts⟩ (q_go l D cI cL cB cZ cT _ m0 mH mI mJ mS mD mX mA mB mW mL aM aC mM mQ oV pL lI sW dP sT aT 0 iW iH aE mN sZ tS tA tW lS 1) (cwV 1 hts gX8_copies_X8_go rfl rfl rfl (by decide +kernel) ⟨Nat.le_of_ble_eq_true rfl, Nat.le_of_ble_eq_true rfl⟩) (kPreV hG hP hD [0] rfl (by decide) 0 8 rfl rfl rfl) rfl rfl hl.1 rfl (lv_room (Nat.le_of_ble_eq_true rfl)) dX8_copies_266 ⟨Nat.le_of_ble_eq_true rfl, Nat.le_of_ble_eq_true rfl⟩) hA hP hD hS [0] [1, 2, 3, 4, 5] rfl rfl (by decide) (by decide) (fun _ u_r_85 H locs wr_85 hP hD hS => ?_)
                        have hP : va_P D vwCl [(mH, .inl (cI, 512, .inl fH)), (mI, .inl (cL, 1200, .inr (.inl fI))), (mJ, .inl (cI, 4, .inl (k4i j0 j1 j2 j3))), (mS, .inl (cI, 4, .inl (k4i s0 s1 s2 s3))), (mD, .inl (cL, 256, .inr (.inl fD))), (m0, .inr (8, [.ref mH, .int aM, .long aC, .int mM, .long mQ, .int oV, .int u_r_85, .int lI, .int sW, .int dP, .int sT, .long aT, .int 0, .int iW, .ref mI, .ref mJ, .ref mS, .ref mD, .int iH, .int aE, .int mN, .long sZ, .ref mX, .int tS, .int tA, .int tW, .ref mA, .ref mB, .ref mW, .ref mL, .int lS]))] H := hP
                        have hD : va_D A [(mH, .inl (cI, 512, .inl fH)), (mI, .inl (cL, 1200, .inr (.inl fI))), (mJ, .inl (cI, 4, .inl (k4i j0 j1 j2 j3))), (mS, .inl (cI, 4, .inl (k4i s0 s1 s2 s3))), (mD, .inl (cL, 256, .inr (.inl fD))), (m0, .inr (8, [.ref mH, .int aM, .long aC, .int mM, .long mQ, .int oV, .int u_r_85, .int lI, .int sW, .int dP, .int sT, .long aT, .int 0, .int iW, .ref mI, .ref mJ, .ref mS, .ref mD, .int iH, .int aE, .int mN, .long sZ, .ref mX, .int tS, .int tA, .int tW, .ref mA, .ref mB, .ref mW, .ref mL, .int lS]))] := hD
                        try dsimp only at wr_85
                        try simp only [Int32.reduceToInt, Int64.reduceToInt] at wr_85
                        refine lv_iconst (v := 0) hx hb dX8_copies_269 (by decide) ?_
                        refine kIret (u := (u_r_85, dP, 0, iW, fH, fD, fI, j0, j1, j2, j3, s0, s1, s2, s3)) hx hb hr rfl hlocks hS dX8_copies_270 ?_ (hP.sub [5, 0, 1, 2, 3, 4] rfl) (hD.sub [5, 0, 1, 2, 3, 4] (by decide) rfl)
                        try dsimp only
                        try simp only [Int32.reduceToInt, Int64.reduceToInt, true_or, or_true, true_and, and_true]
                        repeat' apply And.intro
                        all_goals first | assumption | omega
                      · exact absurd c_258_83 (by decide)
                    · exact absurd (by decide) c_234_81
                  · exact absurd (by decide) c_209_79
                · have t_180_77 := c_180_77
                  try simp only [kb_eq0, kb_ne0, lg_cmp_lt, lg_cmp_le, lg_cmp_gt, lg_cmp_ge, lg_cmp_eq] at t_180_77
                  try simp only [Int32.lt_iff_toInt_lt, Int32.le_iff_toInt_le, ← Int32.toInt_inj, Int64.lt_iff_toInt_lt, Int64.le_iff_toInt_le, ← Int64.toInt_inj, Int32.toInt_toInt64, Int32.reduceToInt, Int64.reduceToInt] at t_180_77
                  refine lv_aload_n hx hb dX8_copies_183 rfl (lv_at hl 3 rfl) ?_
                  refine va_get (D := D) (ci := 8) (v := .ref mI) (C := RX8) (T := TX8) (N := 31) hx hb hts iX8_copies_X8 hown hK hP 0 rfl rfl 14 (by decide) (hts (.fieldLink RX8 13 "TapeCalculatorModel" "item" "[J") (List.mem_of_getElem? (i := 7) rfl)) (fun _ h9 => h9) rfl dX8_copies_184 ?_
                  refine lv_sipush (v := 300) hx hb dX8_copies_187 (by decide) ?_
                  refine lv_iload_n hx hb dX8_copies_190 rfl (lv_at hl 1 rfl) ?_
                  refine lv_imul hx hb dX8_copies_191 ?_
                  refine lv_topi (fun x_86 ex_86 => ?_)
                  obtain rfl : x_86 = 600 := ex_86.trans (by decide)
                  refine lv_iload_n hx hb dX8_copies_192 rfl (lv_at hl 0 rfl) ?_
                  refine lv_iadd hx hb dX8_copies_193 ?_
                  refine va_lald hx hb hK hP 2 1 rfl rfl (vp_in_iff.mpr (by have hx9 := k_addg (a := 600) (b := s2) (by decide) (by omega); simp only [Int32.reduceToInt] at hx9; omega)) dX8_copies_194 ?_
                  refine lv_goto (tgt := 201) hx hb dX8_copies_195 (by decide) ?_
                  refine lv_topl (fun x_87 ex_87 => ?_)
                  refine lv_lstore (lv' := [(4, .long x_87), (3, .int s2), (2, .int 2), (1, .int 0), (0, .ref m0)]) hx hb dX8_copies_201 hl (by decide) rfl (fun ls hl => ?_)
                  refine lv_lload hx hb dX8_copies_203 (lv_at hl 0 rfl) ?_
                  refine lv_ldc2 (v := (-9)) hx hb hown (hts (.constantLong RX8 107 (-9)) (List.mem_of_getElem? (i := 8) rfl)) dX8_copies_205 ?_
                  refine W.lcmp hx hb dX8_copies_208 ?_
                  refine lv_if_eq (tgt := 230) hx hb dX8_copies_209 (by decide) (fun c_209_87 => ?_) (fun c_209_87 => ?_)
                  · have t_209_87 := c_209_87
                    try simp only [kb_eq0, kb_ne0, lg_cmp_lt, lg_cmp_le, lg_cmp_gt, lg_cmp_ge, lg_cmp_eq] at t_209_87
                    try simp only [Int32.lt_iff_toInt_lt, Int32.le_iff_toInt_le, ← Int32.toInt_inj, Int64.lt_iff_toInt_lt, Int64.le_iff_toInt_le, ← Int64.toInt_inj, Int32.toInt_toInt64, Int32.reduceToInt, Int64.reduceToInt] at t_209_87
                    refine lv_lload hx hb dX8_copies_230 (lv_at hl 0 rfl) ?_
                    refine lv_lconst (v := 0) hx hb dX8_copies_232 (by decide) ?_
                    refine W.lcmp hx hb dX8_copies_233 ?_
                    refine lv_if_lt (tgt := 246) hx hb dX8_copies_234 (by decide) (fun c_234_88 => ?_) (fun c_234_88 => ?_)
                    · have t_234_88 := c_234_88
                      try simp only [kb_eq0, kb_ne0, lg_cmp_lt, lg_cmp_le, lg_cmp_gt, lg_cmp_ge, lg_cmp_eq] at t_234_88
                      try simp only [Int32.lt_iff_toInt_lt, Int32.le_iff_toInt_le, ← Int32.toInt_inj, Int64.lt_iff_toInt_lt, Int64.le_iff_toInt_le, ← Int64.toInt_inj, Int32.toInt_toInt64, Int32.reduceToInt, Int64.reduceToInt] at t_234_88
                      refine lv_aload_n hx hb dX8_copies_246 rfl (lv_at hl 4 rfl) ?_
                      refine lv_iconst (v := 0) hx hb dX8_copies_247 (by decide) ?_
                      refine va_put (D := D) (ci := 8) (v := .int 0) (ty := .int) (C := RX8) (T := TX8) (N := 31) hx hb hts iX8_copies_X8 tyX8 tyX8_ok nmX8 hown hK hP hD hS 0 rfl rfl 12 (by decide) (hts (.fieldLink RX8 43 "TapeCalculatorModel" "chosen" "I") (List.mem_of_getElem? (i := 1) rfl)) (fun _ h9 => h9) rfl (by decide +kernel) rfl rfl (Nat.le_of_ble_eq_true rfl) dX8_copies_248 (fun H locs hP hD hS => ?_)
                      have hP : va_P D vwCl [(m0, .inr (8, [.ref mH, .int aM, .long aC, .int mM, .long mQ, .int oV, .int pL, .int lI, .int sW, .int dP, .int sT, .long aT, .int 0, .int iW, .ref mI, .ref mJ, .ref mS, .ref mD, .int iH, .int aE, .int mN, .long sZ, .ref mX, .int tS, .int tA, .int tW, .ref mA, .ref mB, .ref mW, .ref mL, .int lS])), (mH, .inl (cI, 512, .inl fH)), (mI, .inl (cL, 1200, .inr (.inl fI))), (mJ, .inl (cI, 4, .inl (k4i j0 j1 j2 j3))), (mS, .inl (cI, 4, .inl (k4i s0 s1 s2 s3))), (mD, .inl (cL, 256, .inr (.inl fD)))] H := hP
                      have hD : va_D A [(m0, .inr (8, [.ref mH, .int aM, .long aC, .int mM, .long mQ, .int oV, .int pL, .int lI, .int sW, .int dP, .int sT, .long aT, .int 0, .int iW, .ref mI, .ref mJ, .ref mS, .ref mD, .int iH, .int aE, .int mN, .long sZ, .ref mX, .int tS, .int tA, .int tW, .ref mA, .ref mB, .ref mW, .ref mL, .int lS])), (mH, .inl (cI, 512, .inl fH)), (mI, .inl (cL, 1200, .inr (.inl fI))), (mJ, .inl (cI, 4, .inl (k4i j0 j1 j2 j3))), (mS, .inl (cI, 4, .inl (k4i s0 s1 s2 s3))), (mD, .inl (cL, 256, .inr (.inl fD)))] := hD
                      refine lv_aload_n hx hb dX8_copies_251 rfl (lv_at hl 4 rfl) ?_
                      refine lv_lload hx hb dX8_copies_252 (lv_at hl 0 rfl) ?_
                      refine lv_ldc2 (v := (-2)) hx hb hown (hts (.constantLong RX8 111 (-2)) (List.mem_of_getElem? (i := 9) rfl)) dX8_copies_254 ?_
                      refine W.lcmp hx hb dX8_copies_257 ?_
                      refine lv_if_ne (tgt := 265) hx hb dX8_copies_258 (by decide) (fun c_258_89 => ?_) (fun c_258_89 => ?_)
                      · have t_258_89 := c_258_89
                        try simp only [kb_eq0, kb_ne0, lg_cmp_lt, lg_cmp_le, lg_cmp_gt, lg_cmp_ge, lg_cmp_eq] at t_258_89
                        try simp only [Int32.lt_iff_toInt_lt, Int32.le_iff_toInt_le, ← Int32.toInt_inj, Int64.lt_iff_toInt_lt, Int64.le_iff_toInt_le, ← Int64.toInt_inj, Int32.toInt_toInt64, Int32.reduceToInt, Int64.reduceToInt] at t_258_89
                        refine lv_iconst (v := 1) hx hb dX8_copies_265 (by decide) ?_
                        refine kCallVd (wr := [(mH, .inl (cI, 512, .inl fH)), (mI, .inl (cL, 1200, .inr (.inl fI))), (mJ, .inl (cI, 4, .inl (k4i j0 j1 j2 j3))), (mS, .inl (cI, 4, .inl (k4i s0 s1 s2 s3))), (mD, .inl (cL, 256, .inr (.inl fD)))]) (va_runV (As := [.int 1]) (rest := []) ⟨hx, hb, hml, hown, hts⟩ (q_go l D cI cL cB cZ cT _ m0 mH mI mJ mS mD mX mA mB mW mL aM aC mM mQ oV pL lI sW dP sT aT 0 iW iH aE mN sZ tS tA tW lS 1) (cwV 1 hts gX8_copies_X8_go rfl rfl rfl (by decide +kernel) ⟨Nat.le_of_ble_eq_true rfl, Nat.le_of_ble_eq_true rfl⟩) (kPreV hG hP hD [0] rfl (by decide) 0 8 rfl rfl rfl) rfl rfl hl.1 rfl (lv_room (Nat.le_of_ble_eq_true rfl)) dX8_copies_266 ⟨Nat.le_of_ble_eq_true rfl, Nat.le_of_ble_eq_true rfl⟩) hA hP hD hS [0] [1, 2, 3, 4, 5] rfl rfl (by decide) (by decide) (fun _ u_r_91 H locs wr_91 hP hD hS => ?_)
                        have hP : va_P D vwCl [(mH, .inl (cI, 512, .inl fH)), (mI, .inl (cL, 1200, .inr (.inl fI))), (mJ, .inl (cI, 4, .inl (k4i j0 j1 j2 j3))), (mS, .inl (cI, 4, .inl (k4i s0 s1 s2 s3))), (mD, .inl (cL, 256, .inr (.inl fD))), (m0, .inr (8, [.ref mH, .int aM, .long aC, .int mM, .long mQ, .int oV, .int u_r_91, .int lI, .int sW, .int dP, .int sT, .long aT, .int 0, .int iW, .ref mI, .ref mJ, .ref mS, .ref mD, .int iH, .int aE, .int mN, .long sZ, .ref mX, .int tS, .int tA, .int tW, .ref mA, .ref mB, .ref mW, .ref mL, .int lS]))] H := hP
                        have hD : va_D A [(mH, .inl (cI, 512, .inl fH)), (mI, .inl (cL, 1200, .inr (.inl fI))), (mJ, .inl (cI, 4, .inl (k4i j0 j1 j2 j3))), (mS, .inl (cI, 4, .inl (k4i s0 s1 s2 s3))), (mD, .inl (cL, 256, .inr (.inl fD))), (m0, .inr (8, [.ref mH, .int aM, .long aC, .int mM, .long mQ, .int oV, .int u_r_91, .int lI, .int sW, .int dP, .int sT, .long aT, .int 0, .int iW, .ref mI, .ref mJ, .ref mS, .ref mD, .int iH, .int aE, .int mN, .long sZ, .ref mX, .int tS, .int tA, .int tW, .ref mA, .ref mB, .ref mW, .ref mL, .int lS]))] := hD
                        try dsimp only at wr_91
                        try simp only [Int32.reduceToInt, Int64.reduceToInt] at wr_91
                        refine lv_iconst (v := 0) hx hb dX8_copies_269 (by decide) ?_
                        refine kIret (u := (u_r_91, dP, 0, iW, fH, fD, fI, j0, j1, j2, j3, s0, s1, s2, s3)) hx hb hr rfl hlocks hS dX8_copies_270 ?_ (hP.sub [5, 0, 1, 2, 3, 4] rfl) (hD.sub [5, 0, 1, 2, 3, 4] (by decide) rfl)
                        try dsimp only
                        try simp only [Int32.reduceToInt, Int64.reduceToInt, true_or, or_true, true_and, and_true]
                        try rw [← ex_87] at hk8
                        repeat' apply And.intro
                        all_goals first | assumption | omega
                      · have t_258_89 := c_258_89
                        try simp only [kb_eq0, kb_ne0, lg_cmp_lt, lg_cmp_le, lg_cmp_gt, lg_cmp_ge, lg_cmp_eq] at t_258_89
                        try simp only [Int32.lt_iff_toInt_lt, Int32.le_iff_toInt_le, ← Int32.toInt_inj, Int64.lt_iff_toInt_lt, Int64.le_iff_toInt_le, ← Int64.toInt_inj, Int32.toInt_toInt64, Int32.reduceToInt, Int64.reduceToInt] at t_258_89
                        refine lv_iconst (v := 2) hx hb dX8_copies_261 (by decide) ?_
                        refine lv_goto (tgt := 266) hx hb dX8_copies_262 (by decide) ?_
                        refine kCallVd (wr := [(mH, .inl (cI, 512, .inl fH)), (mI, .inl (cL, 1200, .inr (.inl fI))), (mJ, .inl (cI, 4, .inl (k4i j0 j1 j2 j3))), (mS, .inl (cI, 4, .inl (k4i s0 s1 s2 s3))), (mD, .inl (cL, 256, .inr (.inl fD)))]) (va_runV (As := [.int 2]) (rest := []) ⟨hx, hb, hml, hown, hts⟩ (q_go l D cI cL cB cZ cT _ m0 mH mI mJ mS mD mX mA mB mW mL aM aC mM mQ oV pL lI sW dP sT aT 0 iW iH aE mN sZ tS tA tW lS 2) (cwV 1 hts gX8_copies_X8_go rfl rfl rfl (by decide +kernel) ⟨Nat.le_of_ble_eq_true rfl, Nat.le_of_ble_eq_true rfl⟩) (kPreV hG hP hD [0] rfl (by decide) 0 8 rfl rfl rfl) rfl rfl hl.1 rfl (lv_room (Nat.le_of_ble_eq_true rfl)) dX8_copies_266 ⟨Nat.le_of_ble_eq_true rfl, Nat.le_of_ble_eq_true rfl⟩) hA hP hD hS [0] [1, 2, 3, 4, 5] rfl rfl (by decide) (by decide) (fun _ u_r_92 H locs wr_92 hP hD hS => ?_)
                        have hP : va_P D vwCl [(mH, .inl (cI, 512, .inl fH)), (mI, .inl (cL, 1200, .inr (.inl fI))), (mJ, .inl (cI, 4, .inl (k4i j0 j1 j2 j3))), (mS, .inl (cI, 4, .inl (k4i s0 s1 s2 s3))), (mD, .inl (cL, 256, .inr (.inl fD))), (m0, .inr (8, [.ref mH, .int aM, .long aC, .int mM, .long mQ, .int oV, .int u_r_92, .int lI, .int sW, .int dP, .int sT, .long aT, .int 0, .int iW, .ref mI, .ref mJ, .ref mS, .ref mD, .int iH, .int aE, .int mN, .long sZ, .ref mX, .int tS, .int tA, .int tW, .ref mA, .ref mB, .ref mW, .ref mL, .int lS]))] H := hP
                        have hD : va_D A [(mH, .inl (cI, 512, .inl fH)), (mI, .inl (cL, 1200, .inr (.inl fI))), (mJ, .inl (cI, 4, .inl (k4i j0 j1 j2 j3))), (mS, .inl (cI, 4, .inl (k4i s0 s1 s2 s3))), (mD, .inl (cL, 256, .inr (.inl fD))), (m0, .inr (8, [.ref mH, .int aM, .long aC, .int mM, .long mQ, .int oV, .int u_r_92, .int lI, .int sW, .int dP, .int sT, .long aT, .int 0, .int iW, .ref mI, .ref mJ, .ref mS, .ref mD, .int iH, .int aE, .int mN, .long sZ, .ref mX, .int tS, .int tA, .int tW, .ref mA, .ref mB, .ref mW, .ref mL, .int lS]))] := hD
                        try dsimp only at wr_92
                        try simp only [Int32.reduceToInt, Int64.reduceToInt] at wr_92
                        refine lv_iconst (v := 0) hx hb dX8_copies_269 (by decide) ?_
                        refine kIret (u := (u_r_92, dP, 0, iW, fH, fD, fI, j0, j1, j2, j3, s0, s1, s2, s3)) hx hb hr rfl hlocks hS dX8_copies_270 ?_ (hP.sub [5, 0, 1, 2, 3, 4] rfl) (hD.sub [5, 0, 1, 2, 3, 4] (by decide) rfl)
                        try dsimp only
                        try simp only [Int32.reduceToInt, Int64.reduceToInt, true_or, or_true, true_and, and_true]
                        try rw [← ex_87] at hk8
                        repeat' apply And.intro
                        all_goals first | assumption | omega
                    · have t_234_88 := c_234_88
                      try simp only [kb_eq0, kb_ne0, lg_cmp_lt, lg_cmp_le, lg_cmp_gt, lg_cmp_ge, lg_cmp_eq] at t_234_88
                      try simp only [Int32.lt_iff_toInt_lt, Int32.le_iff_toInt_le, ← Int32.toInt_inj, Int64.lt_iff_toInt_lt, Int64.le_iff_toInt_le, ← Int64.toInt_inj, Int32.toInt_toInt64, Int32.reduceToInt, Int64.reduceToInt] at t_234_88
                      refine lv_aload_n hx hb dX8_copies_237 rfl (lv_at hl 4 rfl) ?_
                      refine lv_lload hx hb dX8_copies_238 (lv_at hl 0 rfl) ?_
                      refine kCallVd (wr := [(mI, .inl (cL, 1200, .inr (.inl fI))), (mJ, .inl (cI, 4, .inl (k4i j0 j1 j2 j3))), (mS, .inl (cI, 4, .inl (k4i s0 s1 s2 s3))), (mD, .inl (cL, 256, .inr (.inl fD)))]) (va_runV (As := [.long x_87]) (rest := []) ⟨hx, hb, hml, hown, hts⟩ (q_store l D cI cL cB cZ cT _ m0 mH mI mJ mS mD mX mA mB mW mL aM aC mM mQ oV pL lI sW dP sT aT 3 iW iH aE mN sZ tS tA tW lS fH x_87 (by omega)) (cwV 1 hts gX8_copies_X8_store rfl rfl rfl (by decide +kernel) ⟨Nat.le_of_ble_eq_true rfl, Nat.le_of_ble_eq_true rfl⟩) (kPreV hG hP hD [0, 1] rfl (by decide) 0 8 rfl rfl rfl) rfl rfl hl.1 rfl (lv_room (Nat.le_of_ble_eq_true rfl)) dX8_copies_240 ⟨Nat.le_of_ble_eq_true rfl, Nat.le_of_ble_eq_true rfl⟩) hA hP hD hS [0, 1] [2, 3, 4, 5] rfl rfl (by decide) (by decide) (fun _ u_r_93 H locs wr_93 hP hD hS => ?_)
                      have hP : va_P D vwCl [(mI, .inl (cL, 1200, .inr (.inl fI))), (mJ, .inl (cI, 4, .inl (k4i j0 j1 j2 j3))), (mS, .inl (cI, 4, .inl (k4i s0 s1 s2 s3))), (mD, .inl (cL, 256, .inr (.inl fD))), (m0, .inr (8, [.ref mH, .int aM, .long aC, .int mM, .long mQ, .int oV, .int pL, .int lI, .int sW, .int dP, .int sT, .long aT, .int 3, .int iW, .ref mI, .ref mJ, .ref mS, .ref mD, .int iH, .int aE, .int mN, .long sZ, .ref mX, .int tS, .int tA, .int tW, .ref mA, .ref mB, .ref mW, .ref mL, .int lS])), (mH, .inl (cI, 512, .inl u_r_93))] H := hP
                      have hD : va_D A [(mI, .inl (cL, 1200, .inr (.inl fI))), (mJ, .inl (cI, 4, .inl (k4i j0 j1 j2 j3))), (mS, .inl (cI, 4, .inl (k4i s0 s1 s2 s3))), (mD, .inl (cL, 256, .inr (.inl fD))), (m0, .inr (8, [.ref mH, .int aM, .long aC, .int mM, .long mQ, .int oV, .int pL, .int lI, .int sW, .int dP, .int sT, .long aT, .int 3, .int iW, .ref mI, .ref mJ, .ref mS, .ref mD, .int iH, .int aE, .int mN, .long sZ, .ref mX, .int tS, .int tA, .int tW, .ref mA, .ref mB, .ref mW, .ref mL, .int lS])), (mH, .inl (cI, 512, .inl u_r_93))] := hD
                      try dsimp only at wr_93
                      try simp only [Int32.reduceToInt, Int64.reduceToInt] at wr_93
                      refine lv_goto (tgt := 269) hx hb dX8_copies_243 (by decide) ?_
                      refine lv_iconst (v := 0) hx hb dX8_copies_269 (by decide) ?_
                      refine kIret (u := (pL, dP, 3, iW, u_r_93, fD, fI, j0, j1, j2, j3, s0, s1, s2, s3)) hx hb hr rfl hlocks hS dX8_copies_270 ?_ (hP.sub [4, 5, 0, 1, 2, 3] rfl) (hD.sub [4, 5, 0, 1, 2, 3] (by decide) rfl)
                      try dsimp only
                      try simp only [Int32.reduceToInt, Int64.reduceToInt, true_or, or_true, true_and, and_true]
                      try rw [← ex_87] at hk8
                      repeat' apply And.intro
                      all_goals first | assumption | omega
                  · have t_209_87 := c_209_87
                    try simp only [kb_eq0, kb_ne0, lg_cmp_lt, lg_cmp_le, lg_cmp_gt, lg_cmp_ge, lg_cmp_eq] at t_209_87
                    try simp only [Int32.lt_iff_toInt_lt, Int32.le_iff_toInt_le, ← Int32.toInt_inj, Int64.lt_iff_toInt_lt, Int64.le_iff_toInt_le, ← Int64.toInt_inj, Int32.toInt_toInt64, Int32.reduceToInt, Int64.reduceToInt] at t_209_87
                    refine lv_aload_n hx hb dX8_copies_212 rfl (lv_at hl 4 rfl) ?_
                    refine va_get (D := D) (ci := 8) (v := .ref mS) (C := RX8) (T := TX8) (N := 31) hx hb hts iX8_copies_X8 hown hK hP 0 rfl rfl 16 (by decide) (hts (.fieldLink RX8 20 "TapeCalculatorModel" "stands" "[I") (List.mem_of_getElem? (i := 5) rfl)) (fun _ h9 => h9) rfl dX8_copies_213 ?_
                    refine lv_iload_n hx hb dX8_copies_216 rfl (lv_at hl 2 rfl) ?_
                    refine lv_dup2_11 hx hb dX8_copies_217 rfl rfl ?_
                    refine va_iald hx hb hK hP 4 0 rfl rfl (vp_in_iff.mpr (by decide)) dX8_copies_218 ?_
                    refine lv_topi (fun x_94 ex_94 => ?_)
                    obtain rfl : s2 = x_94 := ex_94.symm
                    refine lv_iload_n hx hb dX8_copies_219 rfl (lv_at hl 3 rfl) ?_
                    refine lv_if_eq (tgt := 227) hx hb dX8_copies_220 (by decide) (fun c_220_94 => ?_) (fun c_220_94 => ?_)
                    · have t_220_94 := c_220_94
                      try simp only [kb_eq0, kb_ne0, lg_cmp_lt, lg_cmp_le, lg_cmp_gt, lg_cmp_ge, lg_cmp_eq] at t_220_94
                      try simp only [Int32.lt_iff_toInt_lt, Int32.le_iff_toInt_le, ← Int32.toInt_inj, Int64.lt_iff_toInt_lt, Int64.le_iff_toInt_le, ← Int64.toInt_inj, Int32.toInt_toInt64, Int32.reduceToInt, Int64.reduceToInt] at t_220_94
                      refine lv_iconst (v := 1) hx hb dX8_copies_227 (by decide) ?_
                      refine lv_iadd hx hb dX8_copies_228 ?_
                      refine va_iast hx hb hK hP hD hS 4 0 rfl rfl (vp_in_iff.mpr (by decide)) dX8_copies_229 (fun H locs hP hD hS => ?_)
                      rw [k4i_2] at hP hD
                      have hP : va_P D vwCl [(m0, .inr (8, [.ref mH, .int aM, .long aC, .int mM, .long mQ, .int oV, .int pL, .int lI, .int sW, .int dP, .int sT, .long aT, .int 3, .int iW, .ref mI, .ref mJ, .ref mS, .ref mD, .int iH, .int aE, .int mN, .long sZ, .ref mX, .int tS, .int tA, .int tW, .ref mA, .ref mB, .ref mW, .ref mL, .int lS])), (mH, .inl (cI, 512, .inl fH)), (mI, .inl (cL, 1200, .inr (.inl fI))), (mJ, .inl (cI, 4, .inl (k4i j0 j1 j2 j3))), (mS, .inl (cI, 4, .inl (k4i s0 s1 (s2 + 1) s3))), (mD, .inl (cL, 256, .inr (.inl fD)))] H := hP
                      have hD : va_D A [(m0, .inr (8, [.ref mH, .int aM, .long aC, .int mM, .long mQ, .int oV, .int pL, .int lI, .int sW, .int dP, .int sT, .long aT, .int 3, .int iW, .ref mI, .ref mJ, .ref mS, .ref mD, .int iH, .int aE, .int mN, .long sZ, .ref mX, .int tS, .int tA, .int tW, .ref mA, .ref mB, .ref mW, .ref mL, .int lS])), (mH, .inl (cI, 512, .inl fH)), (mI, .inl (cL, 1200, .inr (.inl fI))), (mJ, .inl (cI, 4, .inl (k4i j0 j1 j2 j3))), (mS, .inl (cI, 4, .inl (k4i s0 s1 (s2 + 1) s3))), (mD, .inl (cL, 256, .inr (.inl fD)))] := hD
                      refine lv_lload hx hb dX8_copies_230 (lv_at hl 0 rfl) ?_
                      refine lv_lconst (v := 0) hx hb dX8_copies_232 (by decide) ?_
                      refine W.lcmp hx hb dX8_copies_233 ?_
                      refine lv_if_lt (tgt := 246) hx hb dX8_copies_234 (by decide) (fun c_234_95 => ?_) (fun c_234_95 => ?_)
                      · have t_234_95 := c_234_95
                        try simp only [kb_eq0, kb_ne0, lg_cmp_lt, lg_cmp_le, lg_cmp_gt, lg_cmp_ge, lg_cmp_eq] at t_234_95
                        try simp only [Int32.lt_iff_toInt_lt, Int32.le_iff_toInt_le, ← Int32.toInt_inj, Int64.lt_iff_toInt_lt, Int64.le_iff_toInt_le, ← Int64.toInt_inj, Int32.toInt_toInt64, Int32.reduceToInt, Int64.reduceToInt] at t_234_95
                        refine lv_aload_n hx hb dX8_copies_246 rfl (lv_at hl 4 rfl) ?_
                        refine lv_iconst (v := 0) hx hb dX8_copies_247 (by decide) ?_
                        refine va_put (D := D) (ci := 8) (v := .int 0) (ty := .int) (C := RX8) (T := TX8) (N := 31) hx hb hts iX8_copies_X8 tyX8 tyX8_ok nmX8 hown hK hP hD hS 0 rfl rfl 12 (by decide) (hts (.fieldLink RX8 43 "TapeCalculatorModel" "chosen" "I") (List.mem_of_getElem? (i := 1) rfl)) (fun _ h9 => h9) rfl (by decide +kernel) rfl rfl (Nat.le_of_ble_eq_true rfl) dX8_copies_248 (fun H locs hP hD hS => ?_)
                        have hP : va_P D vwCl [(m0, .inr (8, [.ref mH, .int aM, .long aC, .int mM, .long mQ, .int oV, .int pL, .int lI, .int sW, .int dP, .int sT, .long aT, .int 0, .int iW, .ref mI, .ref mJ, .ref mS, .ref mD, .int iH, .int aE, .int mN, .long sZ, .ref mX, .int tS, .int tA, .int tW, .ref mA, .ref mB, .ref mW, .ref mL, .int lS])), (mH, .inl (cI, 512, .inl fH)), (mI, .inl (cL, 1200, .inr (.inl fI))), (mJ, .inl (cI, 4, .inl (k4i j0 j1 j2 j3))), (mS, .inl (cI, 4, .inl (k4i s0 s1 (s2 + 1) s3))), (mD, .inl (cL, 256, .inr (.inl fD)))] H := hP
                        have hD : va_D A [(m0, .inr (8, [.ref mH, .int aM, .long aC, .int mM, .long mQ, .int oV, .int pL, .int lI, .int sW, .int dP, .int sT, .long aT, .int 0, .int iW, .ref mI, .ref mJ, .ref mS, .ref mD, .int iH, .int aE, .int mN, .long sZ, .ref mX, .int tS, .int tA, .int tW, .ref mA, .ref mB, .ref mW, .ref mL, .int lS])), (mH, .inl (cI, 512, .inl fH)), (mI, .inl (cL, 1200, .inr (.inl fI))), (mJ, .inl (cI, 4, .inl (k4i j0 j1 j2 j3))), (mS, .inl (cI, 4, .inl (k4i s0 s1 (s2 + 1) s3))), (mD, .inl (cL, 256, .inr (.inl fD)))] := hD
                        refine lv_aload_n hx hb dX8_copies_251 rfl (lv_at hl 4 rfl) ?_
                        refine lv_lload hx hb dX8_copies_252 (lv_at hl 0 rfl) ?_
                        refine lv_ldc2 (v := (-2)) hx hb hown (hts (.constantLong RX8 111 (-2)) (List.mem_of_getElem? (i := 9) rfl)) dX8_copies_254 ?_
                        refine W.lcmp hx hb dX8_copies_257 ?_
                        refine lv_if_ne (tgt := 265) hx hb dX8_copies_258 (by decide) (fun c_258_96 => ?_) (fun c_258_96 => ?_)
                        · have t_258_96 := c_258_96
                          try simp only [kb_eq0, kb_ne0, lg_cmp_lt, lg_cmp_le, lg_cmp_gt, lg_cmp_ge, lg_cmp_eq] at t_258_96
                          try simp only [Int32.lt_iff_toInt_lt, Int32.le_iff_toInt_le, ← Int32.toInt_inj, Int64.lt_iff_toInt_lt, Int64.le_iff_toInt_le, ← Int64.toInt_inj, Int32.toInt_toInt64, Int32.reduceToInt, Int64.reduceToInt] at t_258_96
                          refine lv_iconst (v := 1) hx hb dX8_copies_265 (by decide) ?_
                          refine kCallVd (wr := [(mH, .inl (cI, 512, .inl fH)), (mI, .inl (cL, 1200, .inr (.inl fI))), (mJ, .inl (cI, 4, .inl (k4i j0 j1 j2 j3))), (mS, .inl (cI, 4, .inl (k4i s0 s1 (s2 + 1) s3))), (mD, .inl (cL, 256, .inr (.inl fD)))]) (va_runV (As := [.int 1]) (rest := []) ⟨hx, hb, hml, hown, hts⟩ (q_go l D cI cL cB cZ cT _ m0 mH mI mJ mS mD mX mA mB mW mL aM aC mM mQ oV pL lI sW dP sT aT 0 iW iH aE mN sZ tS tA tW lS 1) (cwV 1 hts gX8_copies_X8_go rfl rfl rfl (by decide +kernel) ⟨Nat.le_of_ble_eq_true rfl, Nat.le_of_ble_eq_true rfl⟩) (kPreV hG hP hD [0] rfl (by decide) 0 8 rfl rfl rfl) rfl rfl hl.1 rfl (lv_room (Nat.le_of_ble_eq_true rfl)) dX8_copies_266 ⟨Nat.le_of_ble_eq_true rfl, Nat.le_of_ble_eq_true rfl⟩) hA hP hD hS [0] [1, 2, 3, 4, 5] rfl rfl (by decide) (by decide) (fun _ u_r_98 H locs wr_98 hP hD hS => ?_)
                          have hP : va_P D vwCl [(mH, .inl (cI, 512, .inl fH)), (mI, .inl (cL, 1200, .inr (.inl fI))), (mJ, .inl (cI, 4, .inl (k4i j0 j1 j2 j3))), (mS, .inl (cI, 4, .inl (k4i s0 s1 (s2 + 1) s3))), (mD, .inl (cL, 256, .inr (.inl fD))), (m0, .inr (8, [.ref mH, .int aM, .long aC, .int mM, .long mQ, .int oV, .int u_r_98, .int lI, .int sW, .int dP, .int sT, .long aT, .int 0, .int iW, .ref mI, .ref mJ, .ref mS, .ref mD, .int iH, .int aE, .int mN, .long sZ, .ref mX, .int tS, .int tA, .int tW, .ref mA, .ref mB, .ref mW, .ref mL, .int lS]))] H := hP
                          have hD : va_D A [(mH, .inl (cI, 512, .inl fH)), (mI, .inl (cL, 1200, .inr (.inl fI))), (mJ, .inl (cI, 4, .inl (k4i j0 j1 j2 j3))), (mS, .inl (cI, 4, .inl (k4i s0 s1 (s2 + 1) s3))), (mD, .inl (cL, 256, .inr (.inl fD))), (m0, .inr (8, [.ref mH, .int aM, .long aC, .int mM, .long mQ, .int oV, .int u_r_98, .int lI, .int sW, .int dP, .int sT, .long aT, .int 0, .int iW, .ref mI, .ref mJ, .ref mS, .ref mD, .int iH, .int aE, .int mN, .long sZ, .ref mX, .int tS, .int tA, .int tW, .ref mA, .ref mB, .ref mW, .ref mL, .int lS]))] := hD
                          try dsimp only at wr_98
                          try simp only [Int32.reduceToInt, Int64.reduceToInt] at wr_98
                          refine lv_iconst (v := 0) hx hb dX8_copies_269 (by decide) ?_
                          refine kIret (u := (u_r_98, dP, 0, iW, fH, fD, fI, j0, j1, j2, j3, s0, s1, (s2 + 1), s3)) hx hb hr rfl hlocks hS dX8_copies_270 ?_ (hP.sub [5, 0, 1, 2, 3, 4] rfl) (hD.sub [5, 0, 1, 2, 3, 4] (by decide) rfl)
                          try dsimp only
                          try simp only [Int32.reduceToInt, Int64.reduceToInt, true_or, or_true, true_and, and_true]
                          try rw [← ex_87] at hk8
                          repeat' apply And.intro
                          all_goals first | assumption | omega
                        · have t_258_96 := c_258_96
                          try simp only [kb_eq0, kb_ne0, lg_cmp_lt, lg_cmp_le, lg_cmp_gt, lg_cmp_ge, lg_cmp_eq] at t_258_96
                          try simp only [Int32.lt_iff_toInt_lt, Int32.le_iff_toInt_le, ← Int32.toInt_inj, Int64.lt_iff_toInt_lt, Int64.le_iff_toInt_le, ← Int64.toInt_inj, Int32.toInt_toInt64, Int32.reduceToInt, Int64.reduceToInt] at t_258_96
                          refine lv_iconst (v := 2) hx hb dX8_copies_261 (by decide) ?_
                          refine lv_goto (tgt := 266) hx hb dX8_copies_262 (by decide) ?_
                          refine kCallVd (wr := [(mH, .inl (cI, 512, .inl fH)), (mI, .inl (cL, 1200, .inr (.inl fI))), (mJ, .inl (cI, 4, .inl (k4i j0 j1 j2 j3))), (mS, .inl (cI, 4, .inl (k4i s0 s1 (s2 + 1) s3))), (mD, .inl (cL, 256, .inr (.inl fD)))]) (va_runV (As := [.int 2]) (rest := []) ⟨hx, hb, hml, hown, hts⟩ (q_go l D cI cL cB cZ cT _ m0 mH mI mJ mS mD mX mA mB mW mL aM aC mM mQ oV pL lI sW dP sT aT 0 iW iH aE mN sZ tS tA tW lS 2) (cwV 1 hts gX8_copies_X8_go rfl rfl rfl (by decide +kernel) ⟨Nat.le_of_ble_eq_true rfl, Nat.le_of_ble_eq_true rfl⟩) (kPreV hG hP hD [0] rfl (by decide) 0 8 rfl rfl rfl) rfl rfl hl.1 rfl (lv_room (Nat.le_of_ble_eq_true rfl)) dX8_copies_266 ⟨Nat.le_of_ble_eq_true rfl, Nat.le_of_ble_eq_true rfl⟩) hA hP hD hS [0] [1, 2, 3, 4, 5] rfl rfl (by decide) (by decide) (fun _ u_r_99 H locs wr_99 hP hD hS => ?_)
                          have hP : va_P D vwCl [(mH, .inl (cI, 512, .inl fH)), (mI, .inl (cL, 1200, .inr (.inl fI))), (mJ, .inl (cI, 4, .inl (k4i j0 j1 j2 j3))), (mS, .inl (cI, 4, .inl (k4i s0 s1 (s2 + 1) s3))), (mD, .inl (cL, 256, .inr (.inl fD))), (m0, .inr (8, [.ref mH, .int aM, .long aC, .int mM, .long mQ, .int oV, .int u_r_99, .int lI, .int sW, .int dP, .int sT, .long aT, .int 0, .int iW, .ref mI, .ref mJ, .ref mS, .ref mD, .int iH, .int aE, .int mN, .long sZ, .ref mX, .int tS, .int tA, .int tW, .ref mA, .ref mB, .ref mW, .ref mL, .int lS]))] H := hP
                          have hD : va_D A [(mH, .inl (cI, 512, .inl fH)), (mI, .inl (cL, 1200, .inr (.inl fI))), (mJ, .inl (cI, 4, .inl (k4i j0 j1 j2 j3))), (mS, .inl (cI, 4, .inl (k4i s0 s1 (s2 + 1) s3))), (mD, .inl (cL, 256, .inr (.inl fD))), (m0, .inr (8, [.ref mH, .int aM, .long aC, .int mM, .long mQ, .int oV, .int u_r_99, .int lI, .int sW, .int dP, .int sT, .long aT, .int 0, .int iW, .ref mI, .ref mJ, .ref mS, .ref mD, .int iH, .int aE, .int mN, .long sZ, .ref mX, .int tS, .int tA, .int tW, .ref mA, .ref mB, .ref mW, .ref mL, .int lS]))] := hD
                          try dsimp only at wr_99
                          try simp only [Int32.reduceToInt, Int64.reduceToInt] at wr_99
                          refine lv_iconst (v := 0) hx hb dX8_copies_269 (by decide) ?_
                          refine kIret (u := (u_r_99, dP, 0, iW, fH, fD, fI, j0, j1, j2, j3, s0, s1, (s2 + 1), s3)) hx hb hr rfl hlocks hS dX8_copies_270 ?_ (hP.sub [5, 0, 1, 2, 3, 4] rfl) (hD.sub [5, 0, 1, 2, 3, 4] (by decide) rfl)
                          try dsimp only
                          try simp only [Int32.reduceToInt, Int64.reduceToInt, true_or, or_true, true_and, and_true]
                          try rw [← ex_87] at hk8
                          repeat' apply And.intro
                          all_goals first | assumption | omega
                      · have t_234_95 := c_234_95
                        try simp only [kb_eq0, kb_ne0, lg_cmp_lt, lg_cmp_le, lg_cmp_gt, lg_cmp_ge, lg_cmp_eq] at t_234_95
                        try simp only [Int32.lt_iff_toInt_lt, Int32.le_iff_toInt_le, ← Int32.toInt_inj, Int64.lt_iff_toInt_lt, Int64.le_iff_toInt_le, ← Int64.toInt_inj, Int32.toInt_toInt64, Int32.reduceToInt, Int64.reduceToInt] at t_234_95
                        refine lv_aload_n hx hb dX8_copies_237 rfl (lv_at hl 4 rfl) ?_
                        refine lv_lload hx hb dX8_copies_238 (lv_at hl 0 rfl) ?_
                        refine kCallVd (wr := [(mI, .inl (cL, 1200, .inr (.inl fI))), (mJ, .inl (cI, 4, .inl (k4i j0 j1 j2 j3))), (mS, .inl (cI, 4, .inl (k4i s0 s1 (s2 + 1) s3))), (mD, .inl (cL, 256, .inr (.inl fD)))]) (va_runV (As := [.long x_87]) (rest := []) ⟨hx, hb, hml, hown, hts⟩ (q_store l D cI cL cB cZ cT _ m0 mH mI mJ mS mD mX mA mB mW mL aM aC mM mQ oV pL lI sW dP sT aT 3 iW iH aE mN sZ tS tA tW lS fH x_87 (by omega)) (cwV 1 hts gX8_copies_X8_store rfl rfl rfl (by decide +kernel) ⟨Nat.le_of_ble_eq_true rfl, Nat.le_of_ble_eq_true rfl⟩) (kPreV hG hP hD [0, 1] rfl (by decide) 0 8 rfl rfl rfl) rfl rfl hl.1 rfl (lv_room (Nat.le_of_ble_eq_true rfl)) dX8_copies_240 ⟨Nat.le_of_ble_eq_true rfl, Nat.le_of_ble_eq_true rfl⟩) hA hP hD hS [0, 1] [2, 3, 4, 5] rfl rfl (by decide) (by decide) (fun _ u_r_100 H locs wr_100 hP hD hS => ?_)
                        have hP : va_P D vwCl [(mI, .inl (cL, 1200, .inr (.inl fI))), (mJ, .inl (cI, 4, .inl (k4i j0 j1 j2 j3))), (mS, .inl (cI, 4, .inl (k4i s0 s1 (s2 + 1) s3))), (mD, .inl (cL, 256, .inr (.inl fD))), (m0, .inr (8, [.ref mH, .int aM, .long aC, .int mM, .long mQ, .int oV, .int pL, .int lI, .int sW, .int dP, .int sT, .long aT, .int 3, .int iW, .ref mI, .ref mJ, .ref mS, .ref mD, .int iH, .int aE, .int mN, .long sZ, .ref mX, .int tS, .int tA, .int tW, .ref mA, .ref mB, .ref mW, .ref mL, .int lS])), (mH, .inl (cI, 512, .inl u_r_100))] H := hP
                        have hD : va_D A [(mI, .inl (cL, 1200, .inr (.inl fI))), (mJ, .inl (cI, 4, .inl (k4i j0 j1 j2 j3))), (mS, .inl (cI, 4, .inl (k4i s0 s1 (s2 + 1) s3))), (mD, .inl (cL, 256, .inr (.inl fD))), (m0, .inr (8, [.ref mH, .int aM, .long aC, .int mM, .long mQ, .int oV, .int pL, .int lI, .int sW, .int dP, .int sT, .long aT, .int 3, .int iW, .ref mI, .ref mJ, .ref mS, .ref mD, .int iH, .int aE, .int mN, .long sZ, .ref mX, .int tS, .int tA, .int tW, .ref mA, .ref mB, .ref mW, .ref mL, .int lS])), (mH, .inl (cI, 512, .inl u_r_100))] := hD
                        try dsimp only at wr_100
                        try simp only [Int32.reduceToInt, Int64.reduceToInt] at wr_100
                        refine lv_goto (tgt := 269) hx hb dX8_copies_243 (by decide) ?_
                        refine lv_iconst (v := 0) hx hb dX8_copies_269 (by decide) ?_
                        refine kIret (u := (pL, dP, 3, iW, u_r_100, fD, fI, j0, j1, j2, j3, s0, s1, (s2 + 1), s3)) hx hb hr rfl hlocks hS dX8_copies_270 ?_ (hP.sub [4, 5, 0, 1, 2, 3] rfl) (hD.sub [4, 5, 0, 1, 2, 3] (by decide) rfl)
                        try dsimp only
                        try simp only [Int32.reduceToInt, Int64.reduceToInt, true_or, or_true, true_and, and_true]
                        try rw [← ex_87] at hk8
                        repeat' apply And.intro
                        all_goals first | assumption | omega
                    · exact absurd (by decide) c_220_94
              · exact absurd (by decide) c_144_73
            · exact absurd (by decide) c_124_71
          · exact absurd (by decide) c_114_70
        · exact absurd (by decide) c_79_69
      · exact absurd (by decide) c_16_68
    · exact absurd c_4_67 (by decide)
  · have hk8 := k_and (x := dP + 1) (m := 255) 8 (by decide) (by decide)
    have hs0 := k_sub (a := j3) (b := 1) (by omega) (by decide)
    simp only [Int32.reduceToInt] at hs0
    have hs1 := k_sub (a := s3) (b := 1) (by omega) (by decide)
    simp only [Int32.reduceToInt] at hs1
    have hs2 := k_addg (a := s3) (b := 1) (by omega) (by decide)
    have hs3 := k_addg (a := s3) (b := (-1)) (by omega) (by decide)
    simp only [Int32.reduceToInt, show (-1 : Int32).toInt = -1 from rfl] at hs2 hs3
    refine lv_aload_n hx hb dX8_copies_0 rfl (lv_at hl 0 rfl) ?_
    refine va_get (D := D) (ci := 8) (v := .int 4) (C := RX8) (T := TX8) (N := 31) hx hb hts iX8_copies_X8 hown hK hP 0 rfl rfl 12 (by decide) (hts (.fieldLink RX8 43 "TapeCalculatorModel" "chosen" "I") (List.mem_of_getElem? (i := 1) rfl)) (fun _ h9 => h9) rfl dX8_copies_1 ?_
    refine lv_if_ne (tgt := 10) hx hb dX8_copies_4 (by decide) (fun c_4_100 => ?_) (fun c_4_100 => ?_)
    · have t_4_100 := c_4_100
      try simp only [kb_eq0, kb_ne0, lg_cmp_lt, lg_cmp_le, lg_cmp_gt, lg_cmp_ge, lg_cmp_eq] at t_4_100
      try simp only [Int32.lt_iff_toInt_lt, Int32.le_iff_toInt_le, ← Int32.toInt_inj, Int64.lt_iff_toInt_lt, Int64.le_iff_toInt_le, ← Int64.toInt_inj, Int32.toInt_toInt64, Int32.reduceToInt, Int64.reduceToInt] at t_4_100
      refine lv_aload_n hx hb dX8_copies_10 rfl (lv_at hl 0 rfl) ?_
      refine va_get (D := D) (ci := 8) (v := .int 4) (C := RX8) (T := TX8) (N := 31) hx hb hts iX8_copies_X8 hown hK hP 0 rfl rfl 12 (by decide) (hts (.fieldLink RX8 43 "TapeCalculatorModel" "chosen" "I") (List.mem_of_getElem? (i := 1) rfl)) (fun _ h9 => h9) rfl dX8_copies_11 ?_
      refine lv_bipush (v := 12) hx hb dX8_copies_14 (by decide) ?_
      refine lv_icmp_le (tgt := 73) hx hb dX8_copies_16 (by decide) (fun c_16_101 => ?_) (fun c_16_101 => ?_)
      · have t_16_101 := c_16_101
        try simp only [kb_eq0, kb_ne0, lg_cmp_lt, lg_cmp_le, lg_cmp_gt, lg_cmp_ge, lg_cmp_eq] at t_16_101
        try simp only [Int32.lt_iff_toInt_lt, Int32.le_iff_toInt_le, ← Int32.toInt_inj, Int64.lt_iff_toInt_lt, Int64.le_iff_toInt_le, ← Int64.toInt_inj, Int32.toInt_toInt64, Int32.reduceToInt, Int64.reduceToInt] at t_16_101
        refine lv_aload_n hx hb dX8_copies_73 rfl (lv_at hl 0 rfl) ?_
        refine va_get (D := D) (ci := 8) (v := .int 4) (C := RX8) (T := TX8) (N := 31) hx hb hts iX8_copies_X8 hown hK hP 0 rfl rfl 12 (by decide) (hts (.fieldLink RX8 43 "TapeCalculatorModel" "chosen" "I") (List.mem_of_getElem? (i := 1) rfl)) (fun _ h9 => h9) rfl dX8_copies_74 ?_
        refine lv_bipush (v := 8) hx hb dX8_copies_77 (by decide) ?_
        refine lv_icmp_le (tgt := 109) hx hb dX8_copies_79 (by decide) (fun c_79_102 => ?_) (fun c_79_102 => ?_)
        · have t_79_102 := c_79_102
          try simp only [kb_eq0, kb_ne0, lg_cmp_lt, lg_cmp_le, lg_cmp_gt, lg_cmp_ge, lg_cmp_eq] at t_79_102
          try simp only [Int32.lt_iff_toInt_lt, Int32.le_iff_toInt_le, ← Int32.toInt_inj, Int64.lt_iff_toInt_lt, Int64.le_iff_toInt_le, ← Int64.toInt_inj, Int32.toInt_toInt64, Int32.reduceToInt, Int64.reduceToInt] at t_79_102
          refine lv_aload_n hx hb dX8_copies_109 rfl (lv_at hl 0 rfl) ?_
          refine va_get (D := D) (ci := 8) (v := .int 4) (C := RX8) (T := TX8) (N := 31) hx hb hts iX8_copies_X8 hown hK hP 0 rfl rfl 12 (by decide) (hts (.fieldLink RX8 43 "TapeCalculatorModel" "chosen" "I") (List.mem_of_getElem? (i := 1) rfl)) (fun _ h9 => h9) rfl dX8_copies_110 ?_
          refine lv_iconst (v := 4) hx hb dX8_copies_113 (by decide) ?_
          refine lv_icmp_le (tgt := 121) hx hb dX8_copies_114 (by decide) (fun c_114_103 => ?_) (fun c_114_103 => ?_)
          · have t_114_103 := c_114_103
            try simp only [kb_eq0, kb_ne0, lg_cmp_lt, lg_cmp_le, lg_cmp_gt, lg_cmp_ge, lg_cmp_eq] at t_114_103
            try simp only [Int32.lt_iff_toInt_lt, Int32.le_iff_toInt_le, ← Int32.toInt_inj, Int64.lt_iff_toInt_lt, Int64.le_iff_toInt_le, ← Int64.toInt_inj, Int32.toInt_toInt64, Int32.reduceToInt, Int64.reduceToInt] at t_114_103
            refine lv_iconst (v := 0) hx hb dX8_copies_121 (by decide) ?_
            refine lv_istore_n (lv' := [(1, .int 0), (0, .ref m0)]) hx hb dX8_copies_122 rfl hl (by decide) rfl (fun ls hl => ?_)
            refine lv_iload_n hx hb dX8_copies_123 rfl (lv_at hl 0 rfl) ?_
            refine lv_if_eq (tgt := 136) hx hb dX8_copies_124 (by decide) (fun c_124_104 => ?_) (fun c_124_104 => ?_)
            · have t_124_104 := c_124_104
              try simp only [kb_eq0, kb_ne0, lg_cmp_lt, lg_cmp_le, lg_cmp_gt, lg_cmp_ge, lg_cmp_eq] at t_124_104
              try simp only [Int32.lt_iff_toInt_lt, Int32.le_iff_toInt_le, ← Int32.toInt_inj, Int64.lt_iff_toInt_lt, Int64.le_iff_toInt_le, ← Int64.toInt_inj, Int32.toInt_toInt64, Int32.reduceToInt, Int64.reduceToInt] at t_124_104
              refine lv_aload_n hx hb dX8_copies_136 rfl (lv_at hl 1 rfl) ?_
              refine va_get (D := D) (ci := 8) (v := .int 4) (C := RX8) (T := TX8) (N := 31) hx hb hts iX8_copies_X8 hown hK hP 0 rfl rfl 12 (by decide) (hts (.fieldLink RX8 43 "TapeCalculatorModel" "chosen" "I") (List.mem_of_getElem? (i := 1) rfl)) (fun _ h9 => h9) rfl dX8_copies_137 ?_
              refine lv_iconst (v := 1) hx hb dX8_copies_140 (by decide) ?_
              refine lv_isub hx hb dX8_copies_141 ?_
              refine lv_topi (fun x_106 ex_106 => ?_)
              obtain rfl : x_106 = 3 := ex_106.trans (by decide)
              refine lv_istore_n (lv' := [(2, .int 3), (1, .int 0), (0, .ref m0)]) hx hb dX8_copies_142 rfl hl (by decide) rfl (fun ls hl => ?_)
              refine lv_iload_n hx hb dX8_copies_143 rfl (lv_at hl 1 rfl) ?_
              refine lv_if_eq (tgt := 158) hx hb dX8_copies_144 (by decide) (fun c_144_106 => ?_) (fun c_144_106 => ?_)
              · have t_144_106 := c_144_106
                try simp only [kb_eq0, kb_ne0, lg_cmp_lt, lg_cmp_le, lg_cmp_gt, lg_cmp_ge, lg_cmp_eq] at t_144_106
                try simp only [Int32.lt_iff_toInt_lt, Int32.le_iff_toInt_le, ← Int32.toInt_inj, Int64.lt_iff_toInt_lt, Int64.le_iff_toInt_le, ← Int64.toInt_inj, Int32.toInt_toInt64, Int32.reduceToInt, Int64.reduceToInt] at t_144_106
                refine lv_aload_n hx hb dX8_copies_158 rfl (lv_at hl 2 rfl) ?_
                refine va_get (D := D) (ci := 8) (v := .ref mS) (C := RX8) (T := TX8) (N := 31) hx hb hts iX8_copies_X8 hown hK hP 0 rfl rfl 16 (by decide) (hts (.fieldLink RX8 20 "TapeCalculatorModel" "stands" "[I") (List.mem_of_getElem? (i := 5) rfl)) (fun _ h9 => h9) rfl dX8_copies_159 ?_
                refine lv_iload_n hx hb dX8_copies_162 rfl (lv_at hl 0 rfl) ?_
                refine va_iald hx hb hK hP 4 0 rfl rfl (vp_in_iff.mpr (by decide)) dX8_copies_163 ?_
                refine lv_topi (fun x_108 ex_108 => ?_)
                obtain rfl : s3 = x_108 := ex_108.symm
                refine lv_istore_n (lv' := [(3, .int s3), (2, .int 3), (1, .int 0), (0, .ref m0)]) hx hb dX8_copies_164 rfl hl (by decide) rfl (fun ls hl => ?_)
                refine lv_iload_n hx hb dX8_copies_165 rfl (lv_at hl 0 rfl) ?_
                refine lv_i2l hx hb dX8_copies_166 rfl ?_
                refine lv_lconst (v := 0) hx hb dX8_copies_167 (by decide) ?_
                refine lv_aload_n hx hb dX8_copies_168 rfl (lv_at hl 3 rfl) ?_
                refine va_get (D := D) (ci := 8) (v := .ref mJ) (C := RX8) (T := TX8) (N := 31) hx hb hts iX8_copies_X8 hown hK hP 0 rfl rfl 15 (by decide) (hts (.fieldLink RX8 17 "TapeCalculatorModel" "items" "[I") (List.mem_of_getElem? (i := 6) rfl)) (fun _ h9 => h9) rfl dX8_copies_169 ?_
                refine lv_iload_n hx hb dX8_copies_172 rfl (lv_at hl 1 rfl) ?_
                refine va_iald hx hb hK hP 3 0 rfl rfl (vp_in_iff.mpr (by decide)) dX8_copies_173 ?_
                refine lv_topi (fun x_109 ex_109 => ?_)
                obtain rfl : j3 = x_109 := ex_109.symm
                refine lv_iconst (v := 1) hx hb dX8_copies_174 (by decide) ?_
                refine lv_isub hx hb dX8_copies_175 ?_
                refine lv_i2l hx hb dX8_copies_176 rfl ?_
                refine kCallI (wr := [(m0, .inr (8, [.ref mH, .int aM, .long aC, .int mM, .long mQ, .int oV, .int pL, .int lI, .int sW, .int dP, .int sT, .long aT, .int 4, .int iW, .ref mI, .ref mJ, .ref mS, .ref mD, .int iH, .int aE, .int mN, .long sZ, .ref mX, .int tS, .int tA, .int tW, .ref mA, .ref mB, .ref mW, .ref mL, .int lS])), (mH, .inl (cI, 512, .inl fH)), (mI, .inl (cL, 1200, .inr (.inl fI))), (mJ, .inl (cI, 4, .inl (k4i j0 j1 j2 j3))), (mS, .inl (cI, 4, .inl (k4i s0 s1 s2 s3))), (mD, .inl (cL, 256, .inr (.inl fD)))]) (va_runS (As := [.long s3.toInt64, .long 0, .long (j3 - 1).toInt64]) (rest := []) ⟨hx, hb, hml, hown, hts⟩ (q_in l D cI cL cB cZ cT _ (s3.toInt64) 0 (j3 - 1).toInt64) (va_cwS 3 hts gX8_copies_X8_in rfl rfl rfl (by decide +kernel) ⟨Nat.le_of_ble_eq_true rfl, Nat.le_of_ble_eq_true rfl⟩) (kPreS hG hP hD [] rfl (by decide)) rfl rfl hl.1 rfl (lv_room (Nat.le_of_ble_eq_true rfl)) dX8_copies_177 ⟨Nat.le_of_ble_eq_true rfl, Nat.le_of_ble_eq_true rfl⟩) hA hP hD hS [] [0, 1, 2, 3, 4, 5] rfl rfl (by decide) (by decide) (fun r_110 u_r_110 H locs wr_110 hP hD hS => ?_)
                have hP : va_P D vwCl [(m0, .inr (8, [.ref mH, .int aM, .long aC, .int mM, .long mQ, .int oV, .int pL, .int lI, .int sW, .int dP, .int sT, .long aT, .int 4, .int iW, .ref mI, .ref mJ, .ref mS, .ref mD, .int iH, .int aE, .int mN, .long sZ, .ref mX, .int tS, .int tA, .int tW, .ref mA, .ref mB, .ref mW, .ref mL, .int lS])), (mH, .inl (cI, 512, .inl fH)), (mI, .inl (cL, 1200, .inr (.inl fI))), (mJ, .inl (cI, 4, .inl (k4i j0 j1 j2 j3))), (mS, .inl (cI, 4, .inl (k4i s0 s1 s2 s3))), (mD, .inl (cL, 256, .inr (.inl fD)))] H := hP
                have hD : va_D A [(m0, .inr (8, [.ref mH, .int aM, .long aC, .int mM, .long mQ, .int oV, .int pL, .int lI, .int sW, .int dP, .int sT, .long aT, .int 4, .int iW, .ref mI, .ref mJ, .ref mS, .ref mD, .int iH, .int aE, .int mN, .long sZ, .ref mX, .int tS, .int tA, .int tW, .ref mA, .ref mB, .ref mW, .ref mL, .int lS])), (mH, .inl (cI, 512, .inl fH)), (mI, .inl (cL, 1200, .inr (.inl fI))), (mJ, .inl (cI, 4, .inl (k4i j0 j1 j2 j3))), (mS, .inl (cI, 4, .inl (k4i s0 s1 s2 s3))), (mD, .inl (cL, 256, .inr (.inl fD)))] := hD
                try dsimp only at wr_110
                subst wr_110
                refine lv_if_eq (tgt := 198) hx hb dX8_copies_180 (by decide) (fun c_180_110 => ?_) (fun c_180_110 => ?_)
                · have t_180_110 := c_180_110
                  try simp only [kb_eq0, kb_ne0, lg_cmp_lt, lg_cmp_le, lg_cmp_gt, lg_cmp_ge, lg_cmp_eq] at t_180_110
                  try simp only [Int32.lt_iff_toInt_lt, Int32.le_iff_toInt_le, ← Int32.toInt_inj, Int64.lt_iff_toInt_lt, Int64.le_iff_toInt_le, ← Int64.toInt_inj, Int32.toInt_toInt64, Int32.reduceToInt, Int64.reduceToInt] at t_180_110
                  refine lv_ldc2 (v := (-9)) hx hb hown (hts (.constantLong RX8 107 (-9)) (List.mem_of_getElem? (i := 8) rfl)) dX8_copies_198 ?_
                  refine lv_lstore (lv' := [(4, .long (-9)), (3, .int s3), (2, .int 3), (1, .int 0), (0, .ref m0)]) hx hb dX8_copies_201 hl (by decide) rfl (fun ls hl => ?_)
                  refine lv_lload hx hb dX8_copies_203 (lv_at hl 0 rfl) ?_
                  refine lv_ldc2 (v := (-9)) hx hb hown (hts (.constantLong RX8 107 (-9)) (List.mem_of_getElem? (i := 8) rfl)) dX8_copies_205 ?_
                  refine W.lcmp hx hb dX8_copies_208 ?_
                  refine lv_topi (fun x_112 ex_112 => ?_)
                  obtain rfl : x_112 = 0 := ex_112.trans (by decide)
                  refine lv_if_eq (tgt := 230) hx hb dX8_copies_209 (by decide) (fun c_209_112 => ?_) (fun c_209_112 => ?_)
                  · have t_209_112 := c_209_112
                    try simp only [kb_eq0, kb_ne0, lg_cmp_lt, lg_cmp_le, lg_cmp_gt, lg_cmp_ge, lg_cmp_eq] at t_209_112
                    try simp only [Int32.lt_iff_toInt_lt, Int32.le_iff_toInt_le, ← Int32.toInt_inj, Int64.lt_iff_toInt_lt, Int64.le_iff_toInt_le, ← Int64.toInt_inj, Int32.toInt_toInt64, Int32.reduceToInt, Int64.reduceToInt] at t_209_112
                    refine lv_lload hx hb dX8_copies_230 (lv_at hl 0 rfl) ?_
                    refine lv_lconst (v := 0) hx hb dX8_copies_232 (by decide) ?_
                    refine W.lcmp hx hb dX8_copies_233 ?_
                    refine lv_topi (fun x_114 ex_114 => ?_)
                    obtain rfl : x_114 = (-1) := ex_114.trans (by decide)
                    refine lv_if_lt (tgt := 246) hx hb dX8_copies_234 (by decide) (fun c_234_114 => ?_) (fun c_234_114 => ?_)
                    · have t_234_114 := c_234_114
                      try simp only [kb_eq0, kb_ne0, lg_cmp_lt, lg_cmp_le, lg_cmp_gt, lg_cmp_ge, lg_cmp_eq] at t_234_114
                      try simp only [Int32.lt_iff_toInt_lt, Int32.le_iff_toInt_le, ← Int32.toInt_inj, Int64.lt_iff_toInt_lt, Int64.le_iff_toInt_le, ← Int64.toInt_inj, Int32.toInt_toInt64, Int32.reduceToInt, Int64.reduceToInt] at t_234_114
                      refine lv_aload_n hx hb dX8_copies_246 rfl (lv_at hl 4 rfl) ?_
                      refine lv_iconst (v := 0) hx hb dX8_copies_247 (by decide) ?_
                      refine va_put (D := D) (ci := 8) (v := .int 0) (ty := .int) (C := RX8) (T := TX8) (N := 31) hx hb hts iX8_copies_X8 tyX8 tyX8_ok nmX8 hown hK hP hD hS 0 rfl rfl 12 (by decide) (hts (.fieldLink RX8 43 "TapeCalculatorModel" "chosen" "I") (List.mem_of_getElem? (i := 1) rfl)) (fun _ h9 => h9) rfl (by decide +kernel) rfl rfl (Nat.le_of_ble_eq_true rfl) dX8_copies_248 (fun H locs hP hD hS => ?_)
                      have hP : va_P D vwCl [(m0, .inr (8, [.ref mH, .int aM, .long aC, .int mM, .long mQ, .int oV, .int pL, .int lI, .int sW, .int dP, .int sT, .long aT, .int 0, .int iW, .ref mI, .ref mJ, .ref mS, .ref mD, .int iH, .int aE, .int mN, .long sZ, .ref mX, .int tS, .int tA, .int tW, .ref mA, .ref mB, .ref mW, .ref mL, .int lS])), (mH, .inl (cI, 512, .inl fH)), (mI, .inl (cL, 1200, .inr (.inl fI))), (mJ, .inl (cI, 4, .inl (k4i j0 j1 j2 j3))), (mS, .inl (cI, 4, .inl (k4i s0 s1 s2 s3))), (mD, .inl (cL, 256, .inr (.inl fD)))] H := hP
                      have hD : va_D A [(m0, .inr (8, [.ref mH, .int aM, .long aC, .int mM, .long mQ, .int oV, .int pL, .int lI, .int sW, .int dP, .int sT, .long aT, .int 0, .int iW, .ref mI, .ref mJ, .ref mS, .ref mD, .int iH, .int aE, .int mN, .long sZ, .ref mX, .int tS, .int tA, .int tW, .ref mA, .ref mB, .ref mW, .ref mL, .int lS])), (mH, .inl (cI, 512, .inl fH)), (mI, .inl (cL, 1200, .inr (.inl fI))), (mJ, .inl (cI, 4, .inl (k4i j0 j1 j2 j3))), (mS, .inl (cI, 4, .inl (k4i s0 s1 s2 s3))), (mD, .inl (cL, 256, .inr (.inl fD)))] := hD
                      refine lv_aload_n hx hb dX8_copies_251 rfl (lv_at hl 4 rfl) ?_
                      refine lv_lload hx hb dX8_copies_252 (lv_at hl 0 rfl) ?_
                      refine lv_ldc2 (v := (-2)) hx hb hown (hts (.constantLong RX8 111 (-2)) (List.mem_of_getElem? (i := 9) rfl)) dX8_copies_254 ?_
                      refine W.lcmp hx hb dX8_copies_257 ?_
                      refine lv_topi (fun x_116 ex_116 => ?_)
                      obtain rfl : x_116 = (-1) := ex_116.trans (by decide)
                      refine lv_if_ne (tgt := 265) hx hb dX8_copies_258 (by decide) (fun c_258_116 => ?_) (fun c_258_116 => ?_)
                      · have t_258_116 := c_258_116
                        try simp only [kb_eq0, kb_ne0, lg_cmp_lt, lg_cmp_le, lg_cmp_gt, lg_cmp_ge, lg_cmp_eq] at t_258_116
                        try simp only [Int32.lt_iff_toInt_lt, Int32.le_iff_toInt_le, ← Int32.toInt_inj, Int64.lt_iff_toInt_lt, Int64.le_iff_toInt_le, ← Int64.toInt_inj, Int32.toInt_toInt64, Int32.reduceToInt, Int64.reduceToInt] at t_258_116
                        refine lv_iconst (v := 1) hx hb dX8_copies_265 (by decide) ?_
                        refine kCallVd (wr := [(mH, .inl (cI, 512, .inl fH)), (mI, .inl (cL, 1200, .inr (.inl fI))), (mJ, .inl (cI, 4, .inl (k4i j0 j1 j2 j3))), (mS, .inl (cI, 4, .inl (k4i s0 s1 s2 s3))), (mD, .inl (cL, 256, .inr (.inl fD)))]) (va_runV (As := [.int 1]) (rest := []) ⟨hx, hb, hml, hown, hts⟩ (q_go l D cI cL cB cZ cT _ m0 mH mI mJ mS mD mX mA mB mW mL aM aC mM mQ oV pL lI sW dP sT aT 0 iW iH aE mN sZ tS tA tW lS 1) (cwV 1 hts gX8_copies_X8_go rfl rfl rfl (by decide +kernel) ⟨Nat.le_of_ble_eq_true rfl, Nat.le_of_ble_eq_true rfl⟩) (kPreV hG hP hD [0] rfl (by decide) 0 8 rfl rfl rfl) rfl rfl hl.1 rfl (lv_room (Nat.le_of_ble_eq_true rfl)) dX8_copies_266 ⟨Nat.le_of_ble_eq_true rfl, Nat.le_of_ble_eq_true rfl⟩) hA hP hD hS [0] [1, 2, 3, 4, 5] rfl rfl (by decide) (by decide) (fun _ u_r_118 H locs wr_118 hP hD hS => ?_)
                        have hP : va_P D vwCl [(mH, .inl (cI, 512, .inl fH)), (mI, .inl (cL, 1200, .inr (.inl fI))), (mJ, .inl (cI, 4, .inl (k4i j0 j1 j2 j3))), (mS, .inl (cI, 4, .inl (k4i s0 s1 s2 s3))), (mD, .inl (cL, 256, .inr (.inl fD))), (m0, .inr (8, [.ref mH, .int aM, .long aC, .int mM, .long mQ, .int oV, .int u_r_118, .int lI, .int sW, .int dP, .int sT, .long aT, .int 0, .int iW, .ref mI, .ref mJ, .ref mS, .ref mD, .int iH, .int aE, .int mN, .long sZ, .ref mX, .int tS, .int tA, .int tW, .ref mA, .ref mB, .ref mW, .ref mL, .int lS]))] H := hP
                        have hD : va_D A [(mH, .inl (cI, 512, .inl fH)), (mI, .inl (cL, 1200, .inr (.inl fI))), (mJ, .inl (cI, 4, .inl (k4i j0 j1 j2 j3))), (mS, .inl (cI, 4, .inl (k4i s0 s1 s2 s3))), (mD, .inl (cL, 256, .inr (.inl fD))), (m0, .inr (8, [.ref mH, .int aM, .long aC, .int mM, .long mQ, .int oV, .int u_r_118, .int lI, .int sW, .int dP, .int sT, .long aT, .int 0, .int iW, .ref mI, .ref mJ, .ref mS, .ref mD, .int iH, .int aE, .int mN, .long sZ, .ref mX, .int tS, .int tA, .int tW, .ref mA, .ref mB, .ref mW, .ref mL, .int lS]))] := hD
                        try dsimp only at wr_118
                        try simp only [Int32.reduceToInt, Int64.reduceToInt] at wr_118
                        refine lv_iconst (v := 0) hx hb dX8_copies_269 (by decide) ?_
                        refine kIret (u := (u_r_118, dP, 0, iW, fH, fD, fI, j0, j1, j2, j3, s0, s1, s2, s3)) hx hb hr rfl hlocks hS dX8_copies_270 ?_ (hP.sub [5, 0, 1, 2, 3, 4] rfl) (hD.sub [5, 0, 1, 2, 3, 4] (by decide) rfl)
                        try dsimp only
                        try simp only [Int32.reduceToInt, Int64.reduceToInt, true_or, or_true, true_and, and_true]
                        repeat' apply And.intro
                        all_goals first | assumption | omega
                      · exact absurd c_258_116 (by decide)
                    · exact absurd (by decide) c_234_114
                  · exact absurd (by decide) c_209_112
                · have t_180_110 := c_180_110
                  try simp only [kb_eq0, kb_ne0, lg_cmp_lt, lg_cmp_le, lg_cmp_gt, lg_cmp_ge, lg_cmp_eq] at t_180_110
                  try simp only [Int32.lt_iff_toInt_lt, Int32.le_iff_toInt_le, ← Int32.toInt_inj, Int64.lt_iff_toInt_lt, Int64.le_iff_toInt_le, ← Int64.toInt_inj, Int32.toInt_toInt64, Int32.reduceToInt, Int64.reduceToInt] at t_180_110
                  refine lv_aload_n hx hb dX8_copies_183 rfl (lv_at hl 3 rfl) ?_
                  refine va_get (D := D) (ci := 8) (v := .ref mI) (C := RX8) (T := TX8) (N := 31) hx hb hts iX8_copies_X8 hown hK hP 0 rfl rfl 14 (by decide) (hts (.fieldLink RX8 13 "TapeCalculatorModel" "item" "[J") (List.mem_of_getElem? (i := 7) rfl)) (fun _ h9 => h9) rfl dX8_copies_184 ?_
                  refine lv_sipush (v := 300) hx hb dX8_copies_187 (by decide) ?_
                  refine lv_iload_n hx hb dX8_copies_190 rfl (lv_at hl 1 rfl) ?_
                  refine lv_imul hx hb dX8_copies_191 ?_
                  refine lv_topi (fun x_119 ex_119 => ?_)
                  obtain rfl : x_119 = 900 := ex_119.trans (by decide)
                  refine lv_iload_n hx hb dX8_copies_192 rfl (lv_at hl 0 rfl) ?_
                  refine lv_iadd hx hb dX8_copies_193 ?_
                  refine va_lald hx hb hK hP 2 1 rfl rfl (vp_in_iff.mpr (by have hx9 := k_addg (a := 900) (b := s3) (by decide) (by omega); simp only [Int32.reduceToInt] at hx9; omega)) dX8_copies_194 ?_
                  refine lv_goto (tgt := 201) hx hb dX8_copies_195 (by decide) ?_
                  refine lv_topl (fun x_120 ex_120 => ?_)
                  refine lv_lstore (lv' := [(4, .long x_120), (3, .int s3), (2, .int 3), (1, .int 0), (0, .ref m0)]) hx hb dX8_copies_201 hl (by decide) rfl (fun ls hl => ?_)
                  refine lv_lload hx hb dX8_copies_203 (lv_at hl 0 rfl) ?_
                  refine lv_ldc2 (v := (-9)) hx hb hown (hts (.constantLong RX8 107 (-9)) (List.mem_of_getElem? (i := 8) rfl)) dX8_copies_205 ?_
                  refine W.lcmp hx hb dX8_copies_208 ?_
                  refine lv_if_eq (tgt := 230) hx hb dX8_copies_209 (by decide) (fun c_209_120 => ?_) (fun c_209_120 => ?_)
                  · have t_209_120 := c_209_120
                    try simp only [kb_eq0, kb_ne0, lg_cmp_lt, lg_cmp_le, lg_cmp_gt, lg_cmp_ge, lg_cmp_eq] at t_209_120
                    try simp only [Int32.lt_iff_toInt_lt, Int32.le_iff_toInt_le, ← Int32.toInt_inj, Int64.lt_iff_toInt_lt, Int64.le_iff_toInt_le, ← Int64.toInt_inj, Int32.toInt_toInt64, Int32.reduceToInt, Int64.reduceToInt] at t_209_120
                    refine lv_lload hx hb dX8_copies_230 (lv_at hl 0 rfl) ?_
                    refine lv_lconst (v := 0) hx hb dX8_copies_232 (by decide) ?_
                    refine W.lcmp hx hb dX8_copies_233 ?_
                    refine lv_if_lt (tgt := 246) hx hb dX8_copies_234 (by decide) (fun c_234_121 => ?_) (fun c_234_121 => ?_)
                    · have t_234_121 := c_234_121
                      try simp only [kb_eq0, kb_ne0, lg_cmp_lt, lg_cmp_le, lg_cmp_gt, lg_cmp_ge, lg_cmp_eq] at t_234_121
                      try simp only [Int32.lt_iff_toInt_lt, Int32.le_iff_toInt_le, ← Int32.toInt_inj, Int64.lt_iff_toInt_lt, Int64.le_iff_toInt_le, ← Int64.toInt_inj, Int32.toInt_toInt64, Int32.reduceToInt, Int64.reduceToInt] at t_234_121
                      refine lv_aload_n hx hb dX8_copies_246 rfl (lv_at hl 4 rfl) ?_
                      refine lv_iconst (v := 0) hx hb dX8_copies_247 (by decide) ?_
                      refine va_put (D := D) (ci := 8) (v := .int 0) (ty := .int) (C := RX8) (T := TX8) (N := 31) hx hb hts iX8_copies_X8 tyX8 tyX8_ok nmX8 hown hK hP hD hS 0 rfl rfl 12 (by decide) (hts (.fieldLink RX8 43 "TapeCalculatorModel" "chosen" "I") (List.mem_of_getElem? (i := 1) rfl)) (fun _ h9 => h9) rfl (by decide +kernel) rfl rfl (Nat.le_of_ble_eq_true rfl) dX8_copies_248 (fun H locs hP hD hS => ?_)
                      have hP : va_P D vwCl [(m0, .inr (8, [.ref mH, .int aM, .long aC, .int mM, .long mQ, .int oV, .int pL, .int lI, .int sW, .int dP, .int sT, .long aT, .int 0, .int iW, .ref mI, .ref mJ, .ref mS, .ref mD, .int iH, .int aE, .int mN, .long sZ, .ref mX, .int tS, .int tA, .int tW, .ref mA, .ref mB, .ref mW, .ref mL, .int lS])), (mH, .inl (cI, 512, .inl fH)), (mI, .inl (cL, 1200, .inr (.inl fI))), (mJ, .inl (cI, 4, .inl (k4i j0 j1 j2 j3))), (mS, .inl (cI, 4, .inl (k4i s0 s1 s2 s3))), (mD, .inl (cL, 256, .inr (.inl fD)))] H := hP
                      have hD : va_D A [(m0, .inr (8, [.ref mH, .int aM, .long aC, .int mM, .long mQ, .int oV, .int pL, .int lI, .int sW, .int dP, .int sT, .long aT, .int 0, .int iW, .ref mI, .ref mJ, .ref mS, .ref mD, .int iH, .int aE, .int mN, .long sZ, .ref mX, .int tS, .int tA, .int tW, .ref mA, .ref mB, .ref mW, .ref mL, .int lS])), (mH, .inl (cI, 512, .inl fH)), (mI, .inl (cL, 1200, .inr (.inl fI))), (mJ, .inl (cI, 4, .inl (k4i j0 j1 j2 j3))), (mS, .inl (cI, 4, .inl (k4i s0 s1 s2 s3))), (mD, .inl (cL, 256, .inr (.inl fD)))] := hD
                      refine lv_aload_n hx hb dX8_copies_251 rfl (lv_at hl 4 rfl) ?_
                      refine lv_lload hx hb dX8_copies_252 (lv_at hl 0 rfl) ?_
                      refine lv_ldc2 (v := (-2)) hx hb hown (hts (.constantLong RX8 111 (-2)) (List.mem_of_getElem? (i := 9) rfl)) dX8_copies_254 ?_
                      refine W.lcmp hx hb dX8_copies_257 ?_
                      refine lv_if_ne (tgt := 265) hx hb dX8_copies_258 (by decide) (fun c_258_122 => ?_) (fun c_258_122 => ?_)
                      · have t_258_122 := c_258_122
                        try simp only [kb_eq0, kb_ne0, lg_cmp_lt, lg_cmp_le, lg_cmp_gt, lg_cmp_ge, lg_cmp_eq] at t_258_122
                        try simp only [Int32.lt_iff_toInt_lt, Int32.le_iff_toInt_le, ← Int32.toInt_inj, Int64.lt_iff_toInt_lt, Int64.le_iff_toInt_le, ← Int64.toInt_inj, Int32.toInt_toInt64, Int32.reduceToInt, Int64.reduceToInt] at t_258_122
                        refine lv_iconst (v := 1) hx hb dX8_copies_265 (by decide) ?_
                        refine kCallVd (wr := [(mH, .inl (cI, 512, .inl fH)), (mI, .inl (cL, 1200, .inr (.inl fI))), (mJ, .inl (cI, 4, .inl (k4i j0 j1 j2 j3))), (mS, .inl (cI, 4, .inl (k4i s0 s1 s2 s3))), (mD, .inl (cL, 256, .inr (.inl fD)))]) (va_runV (As := [.int 1]) (rest := []) ⟨hx, hb, hml, hown, hts⟩ (q_go l D cI cL cB cZ cT _ m0 mH mI mJ mS mD mX mA mB mW mL aM aC mM mQ oV pL lI sW dP sT aT 0 iW iH aE mN sZ tS tA tW lS 1) (cwV 1 hts gX8_copies_X8_go rfl rfl rfl (by decide +kernel) ⟨Nat.le_of_ble_eq_true rfl, Nat.le_of_ble_eq_true rfl⟩) (kPreV hG hP hD [0] rfl (by decide) 0 8 rfl rfl rfl) rfl rfl hl.1 rfl (lv_room (Nat.le_of_ble_eq_true rfl)) dX8_copies_266 ⟨Nat.le_of_ble_eq_true rfl, Nat.le_of_ble_eq_true rfl⟩) hA hP hD hS [0] [1, 2, 3, 4, 5] rfl rfl (by decide) (by decide) (fun _ u_r_124 H locs wr_124 hP hD hS => ?_)
                        have hP : va_P D vwCl [(mH, .inl (cI, 512, .inl fH)), (mI, .inl (cL, 1200, .inr (.inl fI))), (mJ, .inl (cI, 4, .inl (k4i j0 j1 j2 j3))), (mS, .inl (cI, 4, .inl (k4i s0 s1 s2 s3))), (mD, .inl (cL, 256, .inr (.inl fD))), (m0, .inr (8, [.ref mH, .int aM, .long aC, .int mM, .long mQ, .int oV, .int u_r_124, .int lI, .int sW, .int dP, .int sT, .long aT, .int 0, .int iW, .ref mI, .ref mJ, .ref mS, .ref mD, .int iH, .int aE, .int mN, .long sZ, .ref mX, .int tS, .int tA, .int tW, .ref mA, .ref mB, .ref mW, .ref mL, .int lS]))] H := hP
                        have hD : va_D A [(mH, .inl (cI, 512, .inl fH)), (mI, .inl (cL, 1200, .inr (.inl fI))), (mJ, .inl (cI, 4, .inl (k4i j0 j1 j2 j3))), (mS, .inl (cI, 4, .inl (k4i s0 s1 s2 s3))), (mD, .inl (cL, 256, .inr (.inl fD))), (m0, .inr (8, [.ref mH, .int aM, .long aC, .int mM, .long mQ, .int oV, .int u_r_124, .int lI, .int sW, .int dP, .int sT, .long aT, .int 0, .int iW, .ref mI, .ref mJ, .ref mS, .ref mD, .int iH, .int aE, .int mN, .long sZ, .ref mX, .int tS, .int tA, .int tW, .ref mA, .ref mB, .ref mW, .ref mL, .int lS]))] := hD
                        try dsimp only at wr_124
                        try simp only [Int32.reduceToInt, Int64.reduceToInt] at wr_124
                        refine lv_iconst (v := 0) hx hb dX8_copies_269 (by decide) ?_
                        refine kIret (u := (u_r_124, dP, 0, iW, fH, fD, fI, j0, j1, j2, j3, s0, s1, s2, s3)) hx hb hr rfl hlocks hS dX8_copies_270 ?_ (hP.sub [5, 0, 1, 2, 3, 4] rfl) (hD.sub [5, 0, 1, 2, 3, 4] (by decide) rfl)
                        try dsimp only
                        try simp only [Int32.reduceToInt, Int64.reduceToInt, true_or, or_true, true_and, and_true]
                        try rw [← ex_120] at hk8
                        repeat' apply And.intro
                        all_goals first | assumption | omega
                      · have t_258_122 := c_258_122
                        try simp only [kb_eq0, kb_ne0, lg_cmp_lt, lg_cmp_le, lg_cmp_gt, lg_cmp_ge, lg_cmp_eq] at t_258_122
                        try simp only [Int32.lt_iff_toInt_lt, Int32.le_iff_toInt_le, ← Int32.toInt_inj, Int64.lt_iff_toInt_lt, Int64.le_iff_toInt_le, ← Int64.toInt_inj, Int32.toInt_toInt64, Int32.reduceToInt, Int64.reduceToInt] at t_258_122
                        refine lv_iconst (v := 2) hx hb dX8_copies_261 (by decide) ?_
                        refine lv_goto (tgt := 266) hx hb dX8_copies_262 (by decide) ?_
                        refine kCallVd (wr := [(mH, .inl (cI, 512, .inl fH)), (mI, .inl (cL, 1200, .inr (.inl fI))), (mJ, .inl (cI, 4, .inl (k4i j0 j1 j2 j3))), (mS, .inl (cI, 4, .inl (k4i s0 s1 s2 s3))), (mD, .inl (cL, 256, .inr (.inl fD)))]) (va_runV (As := [.int 2]) (rest := []) ⟨hx, hb, hml, hown, hts⟩ (q_go l D cI cL cB cZ cT _ m0 mH mI mJ mS mD mX mA mB mW mL aM aC mM mQ oV pL lI sW dP sT aT 0 iW iH aE mN sZ tS tA tW lS 2) (cwV 1 hts gX8_copies_X8_go rfl rfl rfl (by decide +kernel) ⟨Nat.le_of_ble_eq_true rfl, Nat.le_of_ble_eq_true rfl⟩) (kPreV hG hP hD [0] rfl (by decide) 0 8 rfl rfl rfl) rfl rfl hl.1 rfl (lv_room (Nat.le_of_ble_eq_true rfl)) dX8_copies_266 ⟨Nat.le_of_ble_eq_true rfl, Nat.le_of_ble_eq_true rfl⟩) hA hP hD hS [0] [1, 2, 3, 4, 5] rfl rfl (by decide) (by decide) (fun _ u_r_125 H locs wr_125 hP hD hS => ?_)
                        have hP : va_P D vwCl [(mH, .inl (cI, 512, .inl fH)), (mI, .inl (cL, 1200, .inr (.inl fI))), (mJ, .inl (cI, 4, .inl (k4i j0 j1 j2 j3))), (mS, .inl (cI, 4, .inl (k4i s0 s1 s2 s3))), (mD, .inl (cL, 256, .inr (.inl fD))), (m0, .inr (8, [.ref mH, .int aM, .long aC, .int mM, .long mQ, .int oV, .int u_r_125, .int lI, .int sW, .int dP, .int sT, .long aT, .int 0, .int iW, .ref mI, .ref mJ, .ref mS, .ref mD, .int iH, .int aE, .int mN, .long sZ, .ref mX, .int tS, .int tA, .int tW, .ref mA, .ref mB, .ref mW, .ref mL, .int lS]))] H := hP
                        have hD : va_D A [(mH, .inl (cI, 512, .inl fH)), (mI, .inl (cL, 1200, .inr (.inl fI))), (mJ, .inl (cI, 4, .inl (k4i j0 j1 j2 j3))), (mS, .inl (cI, 4, .inl (k4i s0 s1 s2 s3))), (mD, .inl (cL, 256, .inr (.inl fD))), (m0, .inr (8, [.ref mH, .int aM, .long aC, .int mM, .long mQ, .int oV, .int u_r_125, .int lI, .int sW, .int dP, .int sT, .long aT, .int 0, .int iW, .ref mI, .ref mJ, .ref mS, .ref mD, .int iH, .int aE, .int mN, .long sZ, .ref mX, .int tS, .int tA, .int tW, .ref mA, .ref mB, .ref mW, .ref mL, .int lS]))] := hD
                        try dsimp only at wr_125
                        try simp only [Int32.reduceToInt, Int64.reduceToInt] at wr_125
                        refine lv_iconst (v := 0) hx hb dX8_copies_269 (by decide) ?_
                        refine kIret (u := (u_r_125, dP, 0, iW, fH, fD, fI, j0, j1, j2, j3, s0, s1, s2, s3)) hx hb hr rfl hlocks hS dX8_copies_270 ?_ (hP.sub [5, 0, 1, 2, 3, 4] rfl) (hD.sub [5, 0, 1, 2, 3, 4] (by decide) rfl)
                        try dsimp only
                        try simp only [Int32.reduceToInt, Int64.reduceToInt, true_or, or_true, true_and, and_true]
                        try rw [← ex_120] at hk8
                        repeat' apply And.intro
                        all_goals first | assumption | omega
                    · have t_234_121 := c_234_121
                      try simp only [kb_eq0, kb_ne0, lg_cmp_lt, lg_cmp_le, lg_cmp_gt, lg_cmp_ge, lg_cmp_eq] at t_234_121
                      try simp only [Int32.lt_iff_toInt_lt, Int32.le_iff_toInt_le, ← Int32.toInt_inj, Int64.lt_iff_toInt_lt, Int64.le_iff_toInt_le, ← Int64.toInt_inj, Int32.toInt_toInt64, Int32.reduceToInt, Int64.reduceToInt] at t_234_121
                      refine lv_aload_n hx hb dX8_copies_237 rfl (lv_at hl 4 rfl) ?_
                      refine lv_lload hx hb dX8_copies_238 (lv_at hl 0 rfl) ?_
                      refine kCallVd (wr := [(mI, .inl (cL, 1200, .inr (.inl fI))), (mJ, .inl (cI, 4, .inl (k4i j0 j1 j2 j3))), (mS, .inl (cI, 4, .inl (k4i s0 s1 s2 s3))), (mD, .inl (cL, 256, .inr (.inl fD)))]) (va_runV (As := [.long x_120]) (rest := []) ⟨hx, hb, hml, hown, hts⟩ (q_store l D cI cL cB cZ cT _ m0 mH mI mJ mS mD mX mA mB mW mL aM aC mM mQ oV pL lI sW dP sT aT 4 iW iH aE mN sZ tS tA tW lS fH x_120 (by omega)) (cwV 1 hts gX8_copies_X8_store rfl rfl rfl (by decide +kernel) ⟨Nat.le_of_ble_eq_true rfl, Nat.le_of_ble_eq_true rfl⟩) (kPreV hG hP hD [0, 1] rfl (by decide) 0 8 rfl rfl rfl) rfl rfl hl.1 rfl (lv_room (Nat.le_of_ble_eq_true rfl)) dX8_copies_240 ⟨Nat.le_of_ble_eq_true rfl, Nat.le_of_ble_eq_true rfl⟩) hA hP hD hS [0, 1] [2, 3, 4, 5] rfl rfl (by decide) (by decide) (fun _ u_r_126 H locs wr_126 hP hD hS => ?_)
                      have hP : va_P D vwCl [(mI, .inl (cL, 1200, .inr (.inl fI))), (mJ, .inl (cI, 4, .inl (k4i j0 j1 j2 j3))), (mS, .inl (cI, 4, .inl (k4i s0 s1 s2 s3))), (mD, .inl (cL, 256, .inr (.inl fD))), (m0, .inr (8, [.ref mH, .int aM, .long aC, .int mM, .long mQ, .int oV, .int pL, .int lI, .int sW, .int dP, .int sT, .long aT, .int 4, .int iW, .ref mI, .ref mJ, .ref mS, .ref mD, .int iH, .int aE, .int mN, .long sZ, .ref mX, .int tS, .int tA, .int tW, .ref mA, .ref mB, .ref mW, .ref mL, .int lS])), (mH, .inl (cI, 512, .inl u_r_126))] H := hP
                      have hD : va_D A [(mI, .inl (cL, 1200, .inr (.inl fI))), (mJ, .inl (cI, 4, .inl (k4i j0 j1 j2 j3))), (mS, .inl (cI, 4, .inl (k4i s0 s1 s2 s3))), (mD, .inl (cL, 256, .inr (.inl fD))), (m0, .inr (8, [.ref mH, .int aM, .long aC, .int mM, .long mQ, .int oV, .int pL, .int lI, .int sW, .int dP, .int sT, .long aT, .int 4, .int iW, .ref mI, .ref mJ, .ref mS, .ref mD, .int iH, .int aE, .int mN, .long sZ, .ref mX, .int tS, .int tA, .int tW, .ref mA, .ref mB, .ref mW, .ref mL, .int lS])), (mH, .inl (cI, 512, .inl u_r_126))] := hD
                      try dsimp only at wr_126
                      try simp only [Int32.reduceToInt, Int64.reduceToInt] at wr_126
                      refine lv_goto (tgt := 269) hx hb dX8_copies_243 (by decide) ?_
                      refine lv_iconst (v := 0) hx hb dX8_copies_269 (by decide) ?_
                      refine kIret (u := (pL, dP, 4, iW, u_r_126, fD, fI, j0, j1, j2, j3, s0, s1, s2, s3)) hx hb hr rfl hlocks hS dX8_copies_270 ?_ (hP.sub [4, 5, 0, 1, 2, 3] rfl) (hD.sub [4, 5, 0, 1, 2, 3] (by decide) rfl)
                      try dsimp only
                      try simp only [Int32.reduceToInt, Int64.reduceToInt, true_or, or_true, true_and, and_true]
                      try rw [← ex_120] at hk8
                      repeat' apply And.intro
                      all_goals first | assumption | omega
                  · have t_209_120 := c_209_120
                    try simp only [kb_eq0, kb_ne0, lg_cmp_lt, lg_cmp_le, lg_cmp_gt, lg_cmp_ge, lg_cmp_eq] at t_209_120
                    try simp only [Int32.lt_iff_toInt_lt, Int32.le_iff_toInt_le, ← Int32.toInt_inj, Int64.lt_iff_toInt_lt, Int64.le_iff_toInt_le, ← Int64.toInt_inj, Int32.toInt_toInt64, Int32.reduceToInt, Int64.reduceToInt] at t_209_120
                    refine lv_aload_n hx hb dX8_copies_212 rfl (lv_at hl 4 rfl) ?_
                    refine va_get (D := D) (ci := 8) (v := .ref mS) (C := RX8) (T := TX8) (N := 31) hx hb hts iX8_copies_X8 hown hK hP 0 rfl rfl 16 (by decide) (hts (.fieldLink RX8 20 "TapeCalculatorModel" "stands" "[I") (List.mem_of_getElem? (i := 5) rfl)) (fun _ h9 => h9) rfl dX8_copies_213 ?_
                    refine lv_iload_n hx hb dX8_copies_216 rfl (lv_at hl 2 rfl) ?_
                    refine lv_dup2_11 hx hb dX8_copies_217 rfl rfl ?_
                    refine va_iald hx hb hK hP 4 0 rfl rfl (vp_in_iff.mpr (by decide)) dX8_copies_218 ?_
                    refine lv_topi (fun x_127 ex_127 => ?_)
                    obtain rfl : s3 = x_127 := ex_127.symm
                    refine lv_iload_n hx hb dX8_copies_219 rfl (lv_at hl 3 rfl) ?_
                    refine lv_if_eq (tgt := 227) hx hb dX8_copies_220 (by decide) (fun c_220_127 => ?_) (fun c_220_127 => ?_)
                    · have t_220_127 := c_220_127
                      try simp only [kb_eq0, kb_ne0, lg_cmp_lt, lg_cmp_le, lg_cmp_gt, lg_cmp_ge, lg_cmp_eq] at t_220_127
                      try simp only [Int32.lt_iff_toInt_lt, Int32.le_iff_toInt_le, ← Int32.toInt_inj, Int64.lt_iff_toInt_lt, Int64.le_iff_toInt_le, ← Int64.toInt_inj, Int32.toInt_toInt64, Int32.reduceToInt, Int64.reduceToInt] at t_220_127
                      refine lv_iconst (v := 1) hx hb dX8_copies_227 (by decide) ?_
                      refine lv_iadd hx hb dX8_copies_228 ?_
                      refine va_iast hx hb hK hP hD hS 4 0 rfl rfl (vp_in_iff.mpr (by decide)) dX8_copies_229 (fun H locs hP hD hS => ?_)
                      rw [k4i_3] at hP hD
                      have hP : va_P D vwCl [(m0, .inr (8, [.ref mH, .int aM, .long aC, .int mM, .long mQ, .int oV, .int pL, .int lI, .int sW, .int dP, .int sT, .long aT, .int 4, .int iW, .ref mI, .ref mJ, .ref mS, .ref mD, .int iH, .int aE, .int mN, .long sZ, .ref mX, .int tS, .int tA, .int tW, .ref mA, .ref mB, .ref mW, .ref mL, .int lS])), (mH, .inl (cI, 512, .inl fH)), (mI, .inl (cL, 1200, .inr (.inl fI))), (mJ, .inl (cI, 4, .inl (k4i j0 j1 j2 j3))), (mS, .inl (cI, 4, .inl (k4i s0 s1 s2 (s3 + 1)))), (mD, .inl (cL, 256, .inr (.inl fD)))] H := hP
                      have hD : va_D A [(m0, .inr (8, [.ref mH, .int aM, .long aC, .int mM, .long mQ, .int oV, .int pL, .int lI, .int sW, .int dP, .int sT, .long aT, .int 4, .int iW, .ref mI, .ref mJ, .ref mS, .ref mD, .int iH, .int aE, .int mN, .long sZ, .ref mX, .int tS, .int tA, .int tW, .ref mA, .ref mB, .ref mW, .ref mL, .int lS])), (mH, .inl (cI, 512, .inl fH)), (mI, .inl (cL, 1200, .inr (.inl fI))), (mJ, .inl (cI, 4, .inl (k4i j0 j1 j2 j3))), (mS, .inl (cI, 4, .inl (k4i s0 s1 s2 (s3 + 1)))), (mD, .inl (cL, 256, .inr (.inl fD)))] := hD
                      refine lv_lload hx hb dX8_copies_230 (lv_at hl 0 rfl) ?_
                      refine lv_lconst (v := 0) hx hb dX8_copies_232 (by decide) ?_
                      refine W.lcmp hx hb dX8_copies_233 ?_
                      refine lv_if_lt (tgt := 246) hx hb dX8_copies_234 (by decide) (fun c_234_128 => ?_) (fun c_234_128 => ?_)
                      · have t_234_128 := c_234_128
                        try simp only [kb_eq0, kb_ne0, lg_cmp_lt, lg_cmp_le, lg_cmp_gt, lg_cmp_ge, lg_cmp_eq] at t_234_128
                        try simp only [Int32.lt_iff_toInt_lt, Int32.le_iff_toInt_le, ← Int32.toInt_inj, Int64.lt_iff_toInt_lt, Int64.le_iff_toInt_le, ← Int64.toInt_inj, Int32.toInt_toInt64, Int32.reduceToInt, Int64.reduceToInt] at t_234_128
                        refine lv_aload_n hx hb dX8_copies_246 rfl (lv_at hl 4 rfl) ?_
                        refine lv_iconst (v := 0) hx hb dX8_copies_247 (by decide) ?_
                        refine va_put (D := D) (ci := 8) (v := .int 0) (ty := .int) (C := RX8) (T := TX8) (N := 31) hx hb hts iX8_copies_X8 tyX8 tyX8_ok nmX8 hown hK hP hD hS 0 rfl rfl 12 (by decide) (hts (.fieldLink RX8 43 "TapeCalculatorModel" "chosen" "I") (List.mem_of_getElem? (i := 1) rfl)) (fun _ h9 => h9) rfl (by decide +kernel) rfl rfl (Nat.le_of_ble_eq_true rfl) dX8_copies_248 (fun H locs hP hD hS => ?_)
                        have hP : va_P D vwCl [(m0, .inr (8, [.ref mH, .int aM, .long aC, .int mM, .long mQ, .int oV, .int pL, .int lI, .int sW, .int dP, .int sT, .long aT, .int 0, .int iW, .ref mI, .ref mJ, .ref mS, .ref mD, .int iH, .int aE, .int mN, .long sZ, .ref mX, .int tS, .int tA, .int tW, .ref mA, .ref mB, .ref mW, .ref mL, .int lS])), (mH, .inl (cI, 512, .inl fH)), (mI, .inl (cL, 1200, .inr (.inl fI))), (mJ, .inl (cI, 4, .inl (k4i j0 j1 j2 j3))), (mS, .inl (cI, 4, .inl (k4i s0 s1 s2 (s3 + 1)))), (mD, .inl (cL, 256, .inr (.inl fD)))] H := hP
                        have hD : va_D A [(m0, .inr (8, [.ref mH, .int aM, .long aC, .int mM, .long mQ, .int oV, .int pL, .int lI, .int sW, .int dP, .int sT, .long aT, .int 0, .int iW, .ref mI, .ref mJ, .ref mS, .ref mD, .int iH, .int aE, .int mN, .long sZ, .ref mX, .int tS, .int tA, .int tW, .ref mA, .ref mB, .ref mW, .ref mL, .int lS])), (mH, .inl (cI, 512, .inl fH)), (mI, .inl (cL, 1200, .inr (.inl fI))), (mJ, .inl (cI, 4, .inl (k4i j0 j1 j2 j3))), (mS, .inl (cI, 4, .inl (k4i s0 s1 s2 (s3 + 1)))), (mD, .inl (cL, 256, .inr (.inl fD)))] := hD
                        refine lv_aload_n hx hb dX8_copies_251 rfl (lv_at hl 4 rfl) ?_
                        refine lv_lload hx hb dX8_copies_252 (lv_at hl 0 rfl) ?_
                        refine lv_ldc2 (v := (-2)) hx hb hown (hts (.constantLong RX8 111 (-2)) (List.mem_of_getElem? (i := 9) rfl)) dX8_copies_254 ?_
                        refine W.lcmp hx hb dX8_copies_257 ?_
                        refine lv_if_ne (tgt := 265) hx hb dX8_copies_258 (by decide) (fun c_258_129 => ?_) (fun c_258_129 => ?_)
                        · have t_258_129 := c_258_129
                          try simp only [kb_eq0, kb_ne0, lg_cmp_lt, lg_cmp_le, lg_cmp_gt, lg_cmp_ge, lg_cmp_eq] at t_258_129
                          try simp only [Int32.lt_iff_toInt_lt, Int32.le_iff_toInt_le, ← Int32.toInt_inj, Int64.lt_iff_toInt_lt, Int64.le_iff_toInt_le, ← Int64.toInt_inj, Int32.toInt_toInt64, Int32.reduceToInt, Int64.reduceToInt] at t_258_129
                          refine lv_iconst (v := 1) hx hb dX8_copies_265 (by decide) ?_
                          refine kCallVd (wr := [(mH, .inl (cI, 512, .inl fH)), (mI, .inl (cL, 1200, .inr (.inl fI))), (mJ, .inl (cI, 4, .inl (k4i j0 j1 j2 j3))), (mS, .inl (cI, 4, .inl (k4i s0 s1 s2 (s3 + 1)))), (mD, .inl (cL, 256, .inr (.inl fD)))]) (va_runV (As := [.int 1]) (rest := []) ⟨hx, hb, hml, hown, hts⟩ (q_go l D cI cL cB cZ cT _ m0 mH mI mJ mS mD mX mA mB mW mL aM aC mM mQ oV pL lI sW dP sT aT 0 iW iH aE mN sZ tS tA tW lS 1) (cwV 1 hts gX8_copies_X8_go rfl rfl rfl (by decide +kernel) ⟨Nat.le_of_ble_eq_true rfl, Nat.le_of_ble_eq_true rfl⟩) (kPreV hG hP hD [0] rfl (by decide) 0 8 rfl rfl rfl) rfl rfl hl.1 rfl (lv_room (Nat.le_of_ble_eq_true rfl)) dX8_copies_266 ⟨Nat.le_of_ble_eq_true rfl, Nat.le_of_ble_eq_true rfl⟩) hA hP hD hS [0] [1, 2, 3, 4, 5] rfl rfl (by decide) (by decide) (fun _ u_r_131 H locs wr_131 hP hD hS => ?_)
                          have hP : va_P D vwCl [(mH, .inl (cI, 512, .inl fH)), (mI, .inl (cL, 1200, .inr (.inl fI))), (mJ, .inl (cI, 4, .inl (k4i j0 j1 j2 j3))), (mS, .inl (cI, 4, .inl (k4i s0 s1 s2 (s3 + 1)))), (mD, .inl (cL, 256, .inr (.inl fD))), (m0, .inr (8, [.ref mH, .int aM, .long aC, .int mM, .long mQ, .int oV, .int u_r_131, .int lI, .int sW, .int dP, .int sT, .long aT, .int 0, .int iW, .ref mI, .ref mJ, .ref mS, .ref mD, .int iH, .int aE, .int mN, .long sZ, .ref mX, .int tS, .int tA, .int tW, .ref mA, .ref mB, .ref mW, .ref mL, .int lS]))] H := hP
                          have hD : va_D A [(mH, .inl (cI, 512, .inl fH)), (mI, .inl (cL, 1200, .inr (.inl fI))), (mJ, .inl (cI, 4, .inl (k4i j0 j1 j2 j3))), (mS, .inl (cI, 4, .inl (k4i s0 s1 s2 (s3 + 1)))), (mD, .inl (cL, 256, .inr (.inl fD))), (m0, .inr (8, [.ref mH, .int aM, .long aC, .int mM, .long mQ, .int oV, .int u_r_131, .int lI, .int sW, .int dP, .int sT, .long aT, .int 0, .int iW, .ref mI, .ref mJ, .ref mS, .ref mD, .int iH, .int aE, .int mN, .long sZ, .ref mX, .int tS, .int tA, .int tW, .ref mA, .ref mB, .ref mW, .ref mL, .int lS]))] := hD
                          try dsimp only at wr_131
                          try simp only [Int32.reduceToInt, Int64.reduceToInt] at wr_131
                          refine lv_iconst (v := 0) hx hb dX8_copies_269 (by decide) ?_
                          refine kIret (u := (u_r_131, dP, 0, iW, fH, fD, fI, j0, j1, j2, j3, s0, s1, s2, (s3 + 1))) hx hb hr rfl hlocks hS dX8_copies_270 ?_ (hP.sub [5, 0, 1, 2, 3, 4] rfl) (hD.sub [5, 0, 1, 2, 3, 4] (by decide) rfl)
                          try dsimp only
                          try simp only [Int32.reduceToInt, Int64.reduceToInt, true_or, or_true, true_and, and_true]
                          try rw [← ex_120] at hk8
                          repeat' apply And.intro
                          all_goals first | assumption | omega
                        · have t_258_129 := c_258_129
                          try simp only [kb_eq0, kb_ne0, lg_cmp_lt, lg_cmp_le, lg_cmp_gt, lg_cmp_ge, lg_cmp_eq] at t_258_129
                          try simp only [Int32.lt_iff_toInt_lt, Int32.le_iff_toInt_le, ← Int32.toInt_inj, Int64.lt_iff_toInt_lt, Int64.le_iff_toInt_le, ← Int64.toInt_inj, Int32.toInt_toInt64, Int32.reduceToInt, Int64.reduceToInt] at t_258_129
                          refine lv_iconst (v := 2) hx hb dX8_copies_261 (by decide) ?_
                          refine lv_goto (tgt := 266) hx hb dX8_copies_262 (by decide) ?_
                          refine kCallVd (wr := [(mH, .inl (cI, 512, .inl fH)), (mI, .inl (cL, 1200, .inr (.inl fI))), (mJ, .inl (cI, 4, .inl (k4i j0 j1 j2 j3))), (mS, .inl (cI, 4, .inl (k4i s0 s1 s2 (s3 + 1)))), (mD, .inl (cL, 256, .inr (.inl fD)))]) (va_runV (As := [.int 2]) (rest := []) ⟨hx, hb, hml, hown, hts⟩ (q_go l D cI cL cB cZ cT _ m0 mH mI mJ mS mD mX mA mB mW mL aM aC mM mQ oV pL lI sW dP sT aT 0 iW iH aE mN sZ tS tA tW lS 2) (cwV 1 hts gX8_copies_X8_go rfl rfl rfl (by decide +kernel) ⟨Nat.le_of_ble_eq_true rfl, Nat.le_of_ble_eq_true rfl⟩) (kPreV hG hP hD [0] rfl (by decide) 0 8 rfl rfl rfl) rfl rfl hl.1 rfl (lv_room (Nat.le_of_ble_eq_true rfl)) dX8_copies_266 ⟨Nat.le_of_ble_eq_true rfl, Nat.le_of_ble_eq_true rfl⟩) hA hP hD hS [0] [1, 2, 3, 4, 5] rfl rfl (by decide) (by decide) (fun _ u_r_132 H locs wr_132 hP hD hS => ?_)
                          have hP : va_P D vwCl [(mH, .inl (cI, 512, .inl fH)), (mI, .inl (cL, 1200, .inr (.inl fI))), (mJ, .inl (cI, 4, .inl (k4i j0 j1 j2 j3))), (mS, .inl (cI, 4, .inl (k4i s0 s1 s2 (s3 + 1)))), (mD, .inl (cL, 256, .inr (.inl fD))), (m0, .inr (8, [.ref mH, .int aM, .long aC, .int mM, .long mQ, .int oV, .int u_r_132, .int lI, .int sW, .int dP, .int sT, .long aT, .int 0, .int iW, .ref mI, .ref mJ, .ref mS, .ref mD, .int iH, .int aE, .int mN, .long sZ, .ref mX, .int tS, .int tA, .int tW, .ref mA, .ref mB, .ref mW, .ref mL, .int lS]))] H := hP
                          have hD : va_D A [(mH, .inl (cI, 512, .inl fH)), (mI, .inl (cL, 1200, .inr (.inl fI))), (mJ, .inl (cI, 4, .inl (k4i j0 j1 j2 j3))), (mS, .inl (cI, 4, .inl (k4i s0 s1 s2 (s3 + 1)))), (mD, .inl (cL, 256, .inr (.inl fD))), (m0, .inr (8, [.ref mH, .int aM, .long aC, .int mM, .long mQ, .int oV, .int u_r_132, .int lI, .int sW, .int dP, .int sT, .long aT, .int 0, .int iW, .ref mI, .ref mJ, .ref mS, .ref mD, .int iH, .int aE, .int mN, .long sZ, .ref mX, .int tS, .int tA, .int tW, .ref mA, .ref mB, .ref mW, .ref mL, .int lS]))] := hD
                          try dsimp only at wr_132
                          try simp only [Int32.reduceToInt, Int64.reduceToInt] at wr_132
                          refine lv_iconst (v := 0) hx hb dX8_copies_269 (by decide) ?_
                          refine kIret (u := (u_r_132, dP, 0, iW, fH, fD, fI, j0, j1, j2, j3, s0, s1, s2, (s3 + 1))) hx hb hr rfl hlocks hS dX8_copies_270 ?_ (hP.sub [5, 0, 1, 2, 3, 4] rfl) (hD.sub [5, 0, 1, 2, 3, 4] (by decide) rfl)
                          try dsimp only
                          try simp only [Int32.reduceToInt, Int64.reduceToInt, true_or, or_true, true_and, and_true]
                          try rw [← ex_120] at hk8
                          repeat' apply And.intro
                          all_goals first | assumption | omega
                      · have t_234_128 := c_234_128
                        try simp only [kb_eq0, kb_ne0, lg_cmp_lt, lg_cmp_le, lg_cmp_gt, lg_cmp_ge, lg_cmp_eq] at t_234_128
                        try simp only [Int32.lt_iff_toInt_lt, Int32.le_iff_toInt_le, ← Int32.toInt_inj, Int64.lt_iff_toInt_lt, Int64.le_iff_toInt_le, ← Int64.toInt_inj, Int32.toInt_toInt64, Int32.reduceToInt, Int64.reduceToInt] at t_234_128
                        refine lv_aload_n hx hb dX8_copies_237 rfl (lv_at hl 4 rfl) ?_
                        refine lv_lload hx hb dX8_copies_238 (lv_at hl 0 rfl) ?_
                        refine kCallVd (wr := [(mI, .inl (cL, 1200, .inr (.inl fI))), (mJ, .inl (cI, 4, .inl (k4i j0 j1 j2 j3))), (mS, .inl (cI, 4, .inl (k4i s0 s1 s2 (s3 + 1)))), (mD, .inl (cL, 256, .inr (.inl fD)))]) (va_runV (As := [.long x_120]) (rest := []) ⟨hx, hb, hml, hown, hts⟩ (q_store l D cI cL cB cZ cT _ m0 mH mI mJ mS mD mX mA mB mW mL aM aC mM mQ oV pL lI sW dP sT aT 4 iW iH aE mN sZ tS tA tW lS fH x_120 (by omega)) (cwV 1 hts gX8_copies_X8_store rfl rfl rfl (by decide +kernel) ⟨Nat.le_of_ble_eq_true rfl, Nat.le_of_ble_eq_true rfl⟩) (kPreV hG hP hD [0, 1] rfl (by decide) 0 8 rfl rfl rfl) rfl rfl hl.1 rfl (lv_room (Nat.le_of_ble_eq_true rfl)) dX8_copies_240 ⟨Nat.le_of_ble_eq_true rfl, Nat.le_of_ble_eq_true rfl⟩) hA hP hD hS [0, 1] [2, 3, 4, 5] rfl rfl (by decide) (by decide) (fun _ u_r_133 H locs wr_133 hP hD hS => ?_)
                        have hP : va_P D vwCl [(mI, .inl (cL, 1200, .inr (.inl fI))), (mJ, .inl (cI, 4, .inl (k4i j0 j1 j2 j3))), (mS, .inl (cI, 4, .inl (k4i s0 s1 s2 (s3 + 1)))), (mD, .inl (cL, 256, .inr (.inl fD))), (m0, .inr (8, [.ref mH, .int aM, .long aC, .int mM, .long mQ, .int oV, .int pL, .int lI, .int sW, .int dP, .int sT, .long aT, .int 4, .int iW, .ref mI, .ref mJ, .ref mS, .ref mD, .int iH, .int aE, .int mN, .long sZ, .ref mX, .int tS, .int tA, .int tW, .ref mA, .ref mB, .ref mW, .ref mL, .int lS])), (mH, .inl (cI, 512, .inl u_r_133))] H := hP
                        have hD : va_D A [(mI, .inl (cL, 1200, .inr (.inl fI))), (mJ, .inl (cI, 4, .inl (k4i j0 j1 j2 j3))), (mS, .inl (cI, 4, .inl (k4i s0 s1 s2 (s3 + 1)))), (mD, .inl (cL, 256, .inr (.inl fD))), (m0, .inr (8, [.ref mH, .int aM, .long aC, .int mM, .long mQ, .int oV, .int pL, .int lI, .int sW, .int dP, .int sT, .long aT, .int 4, .int iW, .ref mI, .ref mJ, .ref mS, .ref mD, .int iH, .int aE, .int mN, .long sZ, .ref mX, .int tS, .int tA, .int tW, .ref mA, .ref mB, .ref mW, .ref mL, .int lS])), (mH, .inl (cI, 512, .inl u_r_133))] := hD
                        try dsimp only at wr_133
                        try simp only [Int32.reduceToInt, Int64.reduceToInt] at wr_133
                        refine lv_goto (tgt := 269) hx hb dX8_copies_243 (by decide) ?_
                        refine lv_iconst (v := 0) hx hb dX8_copies_269 (by decide) ?_
                        refine kIret (u := (pL, dP, 4, iW, u_r_133, fD, fI, j0, j1, j2, j3, s0, s1, s2, (s3 + 1))) hx hb hr rfl hlocks hS dX8_copies_270 ?_ (hP.sub [4, 5, 0, 1, 2, 3] rfl) (hD.sub [4, 5, 0, 1, 2, 3] (by decide) rfl)
                        try dsimp only
                        try simp only [Int32.reduceToInt, Int64.reduceToInt, true_or, or_true, true_and, and_true]
                        try rw [← ex_120] at hk8
                        repeat' apply And.intro
                        all_goals first | assumption | omega
                    · exact absurd (by decide) c_220_127
              · exact absurd (by decide) c_144_106
            · exact absurd (by decide) c_124_104
          · exact absurd (by decide) c_114_103
        · exact absurd (by decide) c_79_102
      · exact absurd (by decide) c_16_101
    · exact absurd c_4_100 (by decide)
  · have hk8 := k_and (x := dP + 1) (m := 255) 8 (by decide) (by decide)
    have hs0 := k_sub (a := j0) (b := 1) (by omega) (by decide)
    simp only [Int32.reduceToInt] at hs0
    have hs1 := k_sub (a := s0) (b := 1) (by omega) (by decide)
    simp only [Int32.reduceToInt] at hs1
    have hs2 := k_addg (a := s0) (b := 1) (by omega) (by decide)
    have hs3 := k_addg (a := s0) (b := (-1)) (by omega) (by decide)
    simp only [Int32.reduceToInt, show (-1 : Int32).toInt = -1 from rfl] at hs2 hs3
    refine lv_aload_n hx hb dX8_copies_0 rfl (lv_at hl 0 rfl) ?_
    refine va_get (D := D) (ci := 8) (v := .int 5) (C := RX8) (T := TX8) (N := 31) hx hb hts iX8_copies_X8 hown hK hP 0 rfl rfl 12 (by decide) (hts (.fieldLink RX8 43 "TapeCalculatorModel" "chosen" "I") (List.mem_of_getElem? (i := 1) rfl)) (fun _ h9 => h9) rfl dX8_copies_1 ?_
    refine lv_if_ne (tgt := 10) hx hb dX8_copies_4 (by decide) (fun c_4_133 => ?_) (fun c_4_133 => ?_)
    · have t_4_133 := c_4_133
      try simp only [kb_eq0, kb_ne0, lg_cmp_lt, lg_cmp_le, lg_cmp_gt, lg_cmp_ge, lg_cmp_eq] at t_4_133
      try simp only [Int32.lt_iff_toInt_lt, Int32.le_iff_toInt_le, ← Int32.toInt_inj, Int64.lt_iff_toInt_lt, Int64.le_iff_toInt_le, ← Int64.toInt_inj, Int32.toInt_toInt64, Int32.reduceToInt, Int64.reduceToInt] at t_4_133
      refine lv_aload_n hx hb dX8_copies_10 rfl (lv_at hl 0 rfl) ?_
      refine va_get (D := D) (ci := 8) (v := .int 5) (C := RX8) (T := TX8) (N := 31) hx hb hts iX8_copies_X8 hown hK hP 0 rfl rfl 12 (by decide) (hts (.fieldLink RX8 43 "TapeCalculatorModel" "chosen" "I") (List.mem_of_getElem? (i := 1) rfl)) (fun _ h9 => h9) rfl dX8_copies_11 ?_
      refine lv_bipush (v := 12) hx hb dX8_copies_14 (by decide) ?_
      refine lv_icmp_le (tgt := 73) hx hb dX8_copies_16 (by decide) (fun c_16_134 => ?_) (fun c_16_134 => ?_)
      · have t_16_134 := c_16_134
        try simp only [kb_eq0, kb_ne0, lg_cmp_lt, lg_cmp_le, lg_cmp_gt, lg_cmp_ge, lg_cmp_eq] at t_16_134
        try simp only [Int32.lt_iff_toInt_lt, Int32.le_iff_toInt_le, ← Int32.toInt_inj, Int64.lt_iff_toInt_lt, Int64.le_iff_toInt_le, ← Int64.toInt_inj, Int32.toInt_toInt64, Int32.reduceToInt, Int64.reduceToInt] at t_16_134
        refine lv_aload_n hx hb dX8_copies_73 rfl (lv_at hl 0 rfl) ?_
        refine va_get (D := D) (ci := 8) (v := .int 5) (C := RX8) (T := TX8) (N := 31) hx hb hts iX8_copies_X8 hown hK hP 0 rfl rfl 12 (by decide) (hts (.fieldLink RX8 43 "TapeCalculatorModel" "chosen" "I") (List.mem_of_getElem? (i := 1) rfl)) (fun _ h9 => h9) rfl dX8_copies_74 ?_
        refine lv_bipush (v := 8) hx hb dX8_copies_77 (by decide) ?_
        refine lv_icmp_le (tgt := 109) hx hb dX8_copies_79 (by decide) (fun c_79_135 => ?_) (fun c_79_135 => ?_)
        · have t_79_135 := c_79_135
          try simp only [kb_eq0, kb_ne0, lg_cmp_lt, lg_cmp_le, lg_cmp_gt, lg_cmp_ge, lg_cmp_eq] at t_79_135
          try simp only [Int32.lt_iff_toInt_lt, Int32.le_iff_toInt_le, ← Int32.toInt_inj, Int64.lt_iff_toInt_lt, Int64.le_iff_toInt_le, ← Int64.toInt_inj, Int32.toInt_toInt64, Int32.reduceToInt, Int64.reduceToInt] at t_79_135
          refine lv_aload_n hx hb dX8_copies_109 rfl (lv_at hl 0 rfl) ?_
          refine va_get (D := D) (ci := 8) (v := .int 5) (C := RX8) (T := TX8) (N := 31) hx hb hts iX8_copies_X8 hown hK hP 0 rfl rfl 12 (by decide) (hts (.fieldLink RX8 43 "TapeCalculatorModel" "chosen" "I") (List.mem_of_getElem? (i := 1) rfl)) (fun _ h9 => h9) rfl dX8_copies_110 ?_
          refine lv_iconst (v := 4) hx hb dX8_copies_113 (by decide) ?_
          refine lv_icmp_le (tgt := 121) hx hb dX8_copies_114 (by decide) (fun c_114_136 => ?_) (fun c_114_136 => ?_)
          · exact absurd c_114_136 (by decide)
          · have t_114_136 := c_114_136
            try simp only [kb_eq0, kb_ne0, lg_cmp_lt, lg_cmp_le, lg_cmp_gt, lg_cmp_ge, lg_cmp_eq] at t_114_136
            try simp only [Int32.lt_iff_toInt_lt, Int32.le_iff_toInt_le, ← Int32.toInt_inj, Int64.lt_iff_toInt_lt, Int64.le_iff_toInt_le, ← Int64.toInt_inj, Int32.toInt_toInt64, Int32.reduceToInt, Int64.reduceToInt] at t_114_136
            refine lv_iconst (v := 1) hx hb dX8_copies_117 (by decide) ?_
            refine lv_goto (tgt := 122) hx hb dX8_copies_118 (by decide) ?_
            refine lv_istore_n (lv' := [(1, .int 1), (0, .ref m0)]) hx hb dX8_copies_122 rfl hl (by decide) rfl (fun ls hl => ?_)
            refine lv_iload_n hx hb dX8_copies_123 rfl (lv_at hl 0 rfl) ?_
            refine lv_if_eq (tgt := 136) hx hb dX8_copies_124 (by decide) (fun c_124_137 => ?_) (fun c_124_137 => ?_)
            · exact absurd c_124_137 (by decide)
            · have t_124_137 := c_124_137
              try simp only [kb_eq0, kb_ne0, lg_cmp_lt, lg_cmp_le, lg_cmp_gt, lg_cmp_ge, lg_cmp_eq] at t_124_137
              try simp only [Int32.lt_iff_toInt_lt, Int32.le_iff_toInt_le, ← Int32.toInt_inj, Int64.lt_iff_toInt_lt, Int64.le_iff_toInt_le, ← Int64.toInt_inj, Int32.toInt_toInt64, Int32.reduceToInt, Int64.reduceToInt] at t_124_137
              refine lv_aload_n hx hb dX8_copies_127 rfl (lv_at hl 1 rfl) ?_
              refine va_get (D := D) (ci := 8) (v := .int 5) (C := RX8) (T := TX8) (N := 31) hx hb hts iX8_copies_X8 hown hK hP 0 rfl rfl 12 (by decide) (hts (.fieldLink RX8 43 "TapeCalculatorModel" "chosen" "I") (List.mem_of_getElem? (i := 1) rfl)) (fun _ h9 => h9) rfl dX8_copies_128 ?_
              refine lv_iconst (v := 5) hx hb dX8_copies_131 (by decide) ?_
              refine lv_isub hx hb dX8_copies_132 ?_
              refine lv_topi (fun x_139 ex_139 => ?_)
              obtain rfl : x_139 = 0 := ex_139.trans (by decide)
              refine lv_goto (tgt := 142) hx hb dX8_copies_133 (by decide) ?_
              refine lv_istore_n (lv' := [(2, .int 0), (1, .int 1), (0, .ref m0)]) hx hb dX8_copies_142 rfl hl (by decide) rfl (fun ls hl => ?_)
              refine lv_iload_n hx hb dX8_copies_143 rfl (lv_at hl 1 rfl) ?_
              refine lv_if_eq (tgt := 158) hx hb dX8_copies_144 (by decide) (fun c_144_139 => ?_) (fun c_144_139 => ?_)
              · exact absurd c_144_139 (by decide)
              · have t_144_139 := c_144_139
                try simp only [kb_eq0, kb_ne0, lg_cmp_lt, lg_cmp_le, lg_cmp_gt, lg_cmp_ge, lg_cmp_eq] at t_144_139
                try simp only [Int32.lt_iff_toInt_lt, Int32.le_iff_toInt_le, ← Int32.toInt_inj, Int64.lt_iff_toInt_lt, Int64.le_iff_toInt_le, ← Int64.toInt_inj, Int32.toInt_toInt64, Int32.reduceToInt, Int64.reduceToInt] at t_144_139
                refine lv_aload_n hx hb dX8_copies_147 rfl (lv_at hl 2 rfl) ?_
                refine va_get (D := D) (ci := 8) (v := .ref mS) (C := RX8) (T := TX8) (N := 31) hx hb hts iX8_copies_X8 hown hK hP 0 rfl rfl 16 (by decide) (hts (.fieldLink RX8 20 "TapeCalculatorModel" "stands" "[I") (List.mem_of_getElem? (i := 5) rfl)) (fun _ h9 => h9) rfl dX8_copies_148 ?_
                refine lv_iload_n hx hb dX8_copies_151 rfl (lv_at hl 0 rfl) ?_
                refine va_iald hx hb hK hP 4 0 rfl rfl (vp_in_iff.mpr (by decide)) dX8_copies_152 ?_
                refine lv_topi (fun x_141 ex_141 => ?_)
                obtain rfl : s0 = x_141 := ex_141.symm
                refine lv_iconst (v := 1) hx hb dX8_copies_153 (by decide) ?_
                refine lv_isub hx hb dX8_copies_154 ?_
                refine lv_goto (tgt := 164) hx hb dX8_copies_155 (by decide) ?_
                refine lv_topi (fun x_142 ex_142 => ?_)
                refine lv_istore_n (lv' := [(3, .int x_142), (2, .int 0), (1, .int 1), (0, .ref m0)]) hx hb dX8_copies_164 rfl hl (by decide) rfl (fun ls hl => ?_)
                rw [← ex_142] at hs1
                refine lv_iload_n hx hb dX8_copies_165 rfl (lv_at hl 0 rfl) ?_
                refine lv_i2l hx hb dX8_copies_166 rfl ?_
                refine lv_lconst (v := 0) hx hb dX8_copies_167 (by decide) ?_
                refine lv_aload_n hx hb dX8_copies_168 rfl (lv_at hl 3 rfl) ?_
                refine va_get (D := D) (ci := 8) (v := .ref mJ) (C := RX8) (T := TX8) (N := 31) hx hb hts iX8_copies_X8 hown hK hP 0 rfl rfl 15 (by decide) (hts (.fieldLink RX8 17 "TapeCalculatorModel" "items" "[I") (List.mem_of_getElem? (i := 6) rfl)) (fun _ h9 => h9) rfl dX8_copies_169 ?_
                refine lv_iload_n hx hb dX8_copies_172 rfl (lv_at hl 1 rfl) ?_
                refine va_iald hx hb hK hP 3 0 rfl rfl (vp_in_iff.mpr (by decide)) dX8_copies_173 ?_
                refine lv_topi (fun x_143 ex_143 => ?_)
                obtain rfl : j0 = x_143 := ex_143.symm
                refine lv_iconst (v := 1) hx hb dX8_copies_174 (by decide) ?_
                refine lv_isub hx hb dX8_copies_175 ?_
                refine lv_i2l hx hb dX8_copies_176 rfl ?_
                refine kCallI (wr := [(m0, .inr (8, [.ref mH, .int aM, .long aC, .int mM, .long mQ, .int oV, .int pL, .int lI, .int sW, .int dP, .int sT, .long aT, .int 5, .int iW, .ref mI, .ref mJ, .ref mS, .ref mD, .int iH, .int aE, .int mN, .long sZ, .ref mX, .int tS, .int tA, .int tW, .ref mA, .ref mB, .ref mW, .ref mL, .int lS])), (mH, .inl (cI, 512, .inl fH)), (mI, .inl (cL, 1200, .inr (.inl fI))), (mJ, .inl (cI, 4, .inl (k4i j0 j1 j2 j3))), (mS, .inl (cI, 4, .inl (k4i s0 s1 s2 s3))), (mD, .inl (cL, 256, .inr (.inl fD)))]) (va_runS (As := [.long x_142.toInt64, .long 0, .long (j0 - 1).toInt64]) (rest := []) ⟨hx, hb, hml, hown, hts⟩ (q_in l D cI cL cB cZ cT _ (x_142.toInt64) 0 (j0 - 1).toInt64) (va_cwS 3 hts gX8_copies_X8_in rfl rfl rfl (by decide +kernel) ⟨Nat.le_of_ble_eq_true rfl, Nat.le_of_ble_eq_true rfl⟩) (kPreS hG hP hD [] rfl (by decide)) rfl rfl hl.1 rfl (lv_room (Nat.le_of_ble_eq_true rfl)) dX8_copies_177 ⟨Nat.le_of_ble_eq_true rfl, Nat.le_of_ble_eq_true rfl⟩) hA hP hD hS [] [0, 1, 2, 3, 4, 5] rfl rfl (by decide) (by decide) (fun r_144 u_r_144 H locs wr_144 hP hD hS => ?_)
                have hP : va_P D vwCl [(m0, .inr (8, [.ref mH, .int aM, .long aC, .int mM, .long mQ, .int oV, .int pL, .int lI, .int sW, .int dP, .int sT, .long aT, .int 5, .int iW, .ref mI, .ref mJ, .ref mS, .ref mD, .int iH, .int aE, .int mN, .long sZ, .ref mX, .int tS, .int tA, .int tW, .ref mA, .ref mB, .ref mW, .ref mL, .int lS])), (mH, .inl (cI, 512, .inl fH)), (mI, .inl (cL, 1200, .inr (.inl fI))), (mJ, .inl (cI, 4, .inl (k4i j0 j1 j2 j3))), (mS, .inl (cI, 4, .inl (k4i s0 s1 s2 s3))), (mD, .inl (cL, 256, .inr (.inl fD)))] H := hP
                have hD : va_D A [(m0, .inr (8, [.ref mH, .int aM, .long aC, .int mM, .long mQ, .int oV, .int pL, .int lI, .int sW, .int dP, .int sT, .long aT, .int 5, .int iW, .ref mI, .ref mJ, .ref mS, .ref mD, .int iH, .int aE, .int mN, .long sZ, .ref mX, .int tS, .int tA, .int tW, .ref mA, .ref mB, .ref mW, .ref mL, .int lS])), (mH, .inl (cI, 512, .inl fH)), (mI, .inl (cL, 1200, .inr (.inl fI))), (mJ, .inl (cI, 4, .inl (k4i j0 j1 j2 j3))), (mS, .inl (cI, 4, .inl (k4i s0 s1 s2 s3))), (mD, .inl (cL, 256, .inr (.inl fD)))] := hD
                try dsimp only at wr_144
                subst wr_144
                refine lv_if_eq (tgt := 198) hx hb dX8_copies_180 (by decide) (fun c_180_144 => ?_) (fun c_180_144 => ?_)
                · have t_180_144 := c_180_144
                  try simp only [kb_eq0, kb_ne0, lg_cmp_lt, lg_cmp_le, lg_cmp_gt, lg_cmp_ge, lg_cmp_eq] at t_180_144
                  try simp only [Int32.lt_iff_toInt_lt, Int32.le_iff_toInt_le, ← Int32.toInt_inj, Int64.lt_iff_toInt_lt, Int64.le_iff_toInt_le, ← Int64.toInt_inj, Int32.toInt_toInt64, Int32.reduceToInt, Int64.reduceToInt] at t_180_144
                  refine lv_ldc2 (v := (-9)) hx hb hown (hts (.constantLong RX8 107 (-9)) (List.mem_of_getElem? (i := 8) rfl)) dX8_copies_198 ?_
                  refine lv_lstore (lv' := [(4, .long (-9)), (3, .int x_142), (2, .int 0), (1, .int 1), (0, .ref m0)]) hx hb dX8_copies_201 hl (by decide) rfl (fun ls hl => ?_)
                  refine lv_lload hx hb dX8_copies_203 (lv_at hl 0 rfl) ?_
                  refine lv_ldc2 (v := (-9)) hx hb hown (hts (.constantLong RX8 107 (-9)) (List.mem_of_getElem? (i := 8) rfl)) dX8_copies_205 ?_
                  refine W.lcmp hx hb dX8_copies_208 ?_
                  refine lv_topi (fun x_146 ex_146 => ?_)
                  obtain rfl : x_146 = 0 := ex_146.trans (by decide)
                  refine lv_if_eq (tgt := 230) hx hb dX8_copies_209 (by decide) (fun c_209_146 => ?_) (fun c_209_146 => ?_)
                  · have t_209_146 := c_209_146
                    try simp only [kb_eq0, kb_ne0, lg_cmp_lt, lg_cmp_le, lg_cmp_gt, lg_cmp_ge, lg_cmp_eq] at t_209_146
                    try simp only [Int32.lt_iff_toInt_lt, Int32.le_iff_toInt_le, ← Int32.toInt_inj, Int64.lt_iff_toInt_lt, Int64.le_iff_toInt_le, ← Int64.toInt_inj, Int32.toInt_toInt64, Int32.reduceToInt, Int64.reduceToInt] at t_209_146
                    refine lv_lload hx hb dX8_copies_230 (lv_at hl 0 rfl) ?_
                    refine lv_lconst (v := 0) hx hb dX8_copies_232 (by decide) ?_
                    refine W.lcmp hx hb dX8_copies_233 ?_
                    refine lv_topi (fun x_148 ex_148 => ?_)
                    obtain rfl : x_148 = (-1) := ex_148.trans (by decide)
                    refine lv_if_lt (tgt := 246) hx hb dX8_copies_234 (by decide) (fun c_234_148 => ?_) (fun c_234_148 => ?_)
                    · have t_234_148 := c_234_148
                      try simp only [kb_eq0, kb_ne0, lg_cmp_lt, lg_cmp_le, lg_cmp_gt, lg_cmp_ge, lg_cmp_eq] at t_234_148
                      try simp only [Int32.lt_iff_toInt_lt, Int32.le_iff_toInt_le, ← Int32.toInt_inj, Int64.lt_iff_toInt_lt, Int64.le_iff_toInt_le, ← Int64.toInt_inj, Int32.toInt_toInt64, Int32.reduceToInt, Int64.reduceToInt] at t_234_148
                      refine lv_aload_n hx hb dX8_copies_246 rfl (lv_at hl 4 rfl) ?_
                      refine lv_iconst (v := 0) hx hb dX8_copies_247 (by decide) ?_
                      refine va_put (D := D) (ci := 8) (v := .int 0) (ty := .int) (C := RX8) (T := TX8) (N := 31) hx hb hts iX8_copies_X8 tyX8 tyX8_ok nmX8 hown hK hP hD hS 0 rfl rfl 12 (by decide) (hts (.fieldLink RX8 43 "TapeCalculatorModel" "chosen" "I") (List.mem_of_getElem? (i := 1) rfl)) (fun _ h9 => h9) rfl (by decide +kernel) rfl rfl (Nat.le_of_ble_eq_true rfl) dX8_copies_248 (fun H locs hP hD hS => ?_)
                      have hP : va_P D vwCl [(m0, .inr (8, [.ref mH, .int aM, .long aC, .int mM, .long mQ, .int oV, .int pL, .int lI, .int sW, .int dP, .int sT, .long aT, .int 0, .int iW, .ref mI, .ref mJ, .ref mS, .ref mD, .int iH, .int aE, .int mN, .long sZ, .ref mX, .int tS, .int tA, .int tW, .ref mA, .ref mB, .ref mW, .ref mL, .int lS])), (mH, .inl (cI, 512, .inl fH)), (mI, .inl (cL, 1200, .inr (.inl fI))), (mJ, .inl (cI, 4, .inl (k4i j0 j1 j2 j3))), (mS, .inl (cI, 4, .inl (k4i s0 s1 s2 s3))), (mD, .inl (cL, 256, .inr (.inl fD)))] H := hP
                      have hD : va_D A [(m0, .inr (8, [.ref mH, .int aM, .long aC, .int mM, .long mQ, .int oV, .int pL, .int lI, .int sW, .int dP, .int sT, .long aT, .int 0, .int iW, .ref mI, .ref mJ, .ref mS, .ref mD, .int iH, .int aE, .int mN, .long sZ, .ref mX, .int tS, .int tA, .int tW, .ref mA, .ref mB, .ref mW, .ref mL, .int lS])), (mH, .inl (cI, 512, .inl fH)), (mI, .inl (cL, 1200, .inr (.inl fI))), (mJ, .inl (cI, 4, .inl (k4i j0 j1 j2 j3))), (mS, .inl (cI, 4, .inl (k4i s0 s1 s2 s3))), (mD, .inl (cL, 256, .inr (.inl fD)))] := hD
                      refine lv_aload_n hx hb dX8_copies_251 rfl (lv_at hl 4 rfl) ?_
                      refine lv_lload hx hb dX8_copies_252 (lv_at hl 0 rfl) ?_
                      refine lv_ldc2 (v := (-2)) hx hb hown (hts (.constantLong RX8 111 (-2)) (List.mem_of_getElem? (i := 9) rfl)) dX8_copies_254 ?_
                      refine W.lcmp hx hb dX8_copies_257 ?_
                      refine lv_topi (fun x_150 ex_150 => ?_)
                      obtain rfl : x_150 = (-1) := ex_150.trans (by decide)
                      refine lv_if_ne (tgt := 265) hx hb dX8_copies_258 (by decide) (fun c_258_150 => ?_) (fun c_258_150 => ?_)
                      · have t_258_150 := c_258_150
                        try simp only [kb_eq0, kb_ne0, lg_cmp_lt, lg_cmp_le, lg_cmp_gt, lg_cmp_ge, lg_cmp_eq] at t_258_150
                        try simp only [Int32.lt_iff_toInt_lt, Int32.le_iff_toInt_le, ← Int32.toInt_inj, Int64.lt_iff_toInt_lt, Int64.le_iff_toInt_le, ← Int64.toInt_inj, Int32.toInt_toInt64, Int32.reduceToInt, Int64.reduceToInt] at t_258_150
                        refine lv_iconst (v := 1) hx hb dX8_copies_265 (by decide) ?_
                        refine kCallVd (wr := [(mH, .inl (cI, 512, .inl fH)), (mI, .inl (cL, 1200, .inr (.inl fI))), (mJ, .inl (cI, 4, .inl (k4i j0 j1 j2 j3))), (mS, .inl (cI, 4, .inl (k4i s0 s1 s2 s3))), (mD, .inl (cL, 256, .inr (.inl fD)))]) (va_runV (As := [.int 1]) (rest := []) ⟨hx, hb, hml, hown, hts⟩ (q_go l D cI cL cB cZ cT _ m0 mH mI mJ mS mD mX mA mB mW mL aM aC mM mQ oV pL lI sW dP sT aT 0 iW iH aE mN sZ tS tA tW lS 1) (cwV 1 hts gX8_copies_X8_go rfl rfl rfl (by decide +kernel) ⟨Nat.le_of_ble_eq_true rfl, Nat.le_of_ble_eq_true rfl⟩) (kPreV hG hP hD [0] rfl (by decide) 0 8 rfl rfl rfl) rfl rfl hl.1 rfl (lv_room (Nat.le_of_ble_eq_true rfl)) dX8_copies_266 ⟨Nat.le_of_ble_eq_true rfl, Nat.le_of_ble_eq_true rfl⟩) hA hP hD hS [0] [1, 2, 3, 4, 5] rfl rfl (by decide) (by decide) (fun _ u_r_152 H locs wr_152 hP hD hS => ?_)
                        have hP : va_P D vwCl [(mH, .inl (cI, 512, .inl fH)), (mI, .inl (cL, 1200, .inr (.inl fI))), (mJ, .inl (cI, 4, .inl (k4i j0 j1 j2 j3))), (mS, .inl (cI, 4, .inl (k4i s0 s1 s2 s3))), (mD, .inl (cL, 256, .inr (.inl fD))), (m0, .inr (8, [.ref mH, .int aM, .long aC, .int mM, .long mQ, .int oV, .int u_r_152, .int lI, .int sW, .int dP, .int sT, .long aT, .int 0, .int iW, .ref mI, .ref mJ, .ref mS, .ref mD, .int iH, .int aE, .int mN, .long sZ, .ref mX, .int tS, .int tA, .int tW, .ref mA, .ref mB, .ref mW, .ref mL, .int lS]))] H := hP
                        have hD : va_D A [(mH, .inl (cI, 512, .inl fH)), (mI, .inl (cL, 1200, .inr (.inl fI))), (mJ, .inl (cI, 4, .inl (k4i j0 j1 j2 j3))), (mS, .inl (cI, 4, .inl (k4i s0 s1 s2 s3))), (mD, .inl (cL, 256, .inr (.inl fD))), (m0, .inr (8, [.ref mH, .int aM, .long aC, .int mM, .long mQ, .int oV, .int u_r_152, .int lI, .int sW, .int dP, .int sT, .long aT, .int 0, .int iW, .ref mI, .ref mJ, .ref mS, .ref mD, .int iH, .int aE, .int mN, .long sZ, .ref mX, .int tS, .int tA, .int tW, .ref mA, .ref mB, .ref mW, .ref mL, .int lS]))] := hD
                        try dsimp only at wr_152
                        try simp only [Int32.reduceToInt, Int64.reduceToInt] at wr_152
                        refine lv_iconst (v := 0) hx hb dX8_copies_269 (by decide) ?_
                        refine kIret (u := (u_r_152, dP, 0, iW, fH, fD, fI, j0, j1, j2, j3, s0, s1, s2, s3)) hx hb hr rfl hlocks hS dX8_copies_270 ?_ (hP.sub [5, 0, 1, 2, 3, 4] rfl) (hD.sub [5, 0, 1, 2, 3, 4] (by decide) rfl)
                        try dsimp only
                        try simp only [Int32.reduceToInt, Int64.reduceToInt, true_or, or_true, true_and, and_true]
                        try rw [← ex_142] at hk8
                        repeat' apply And.intro
                        all_goals first | assumption | omega
                      · exact absurd c_258_150 (by decide)
                    · exact absurd (by decide) c_234_148
                  · exact absurd (by decide) c_209_146
                · have t_180_144 := c_180_144
                  try simp only [kb_eq0, kb_ne0, lg_cmp_lt, lg_cmp_le, lg_cmp_gt, lg_cmp_ge, lg_cmp_eq] at t_180_144
                  try simp only [Int32.lt_iff_toInt_lt, Int32.le_iff_toInt_le, ← Int32.toInt_inj, Int64.lt_iff_toInt_lt, Int64.le_iff_toInt_le, ← Int64.toInt_inj, Int32.toInt_toInt64, Int32.reduceToInt, Int64.reduceToInt] at t_180_144
                  refine lv_aload_n hx hb dX8_copies_183 rfl (lv_at hl 3 rfl) ?_
                  refine va_get (D := D) (ci := 8) (v := .ref mI) (C := RX8) (T := TX8) (N := 31) hx hb hts iX8_copies_X8 hown hK hP 0 rfl rfl 14 (by decide) (hts (.fieldLink RX8 13 "TapeCalculatorModel" "item" "[J") (List.mem_of_getElem? (i := 7) rfl)) (fun _ h9 => h9) rfl dX8_copies_184 ?_
                  refine lv_sipush (v := 300) hx hb dX8_copies_187 (by decide) ?_
                  refine lv_iload_n hx hb dX8_copies_190 rfl (lv_at hl 1 rfl) ?_
                  refine lv_imul hx hb dX8_copies_191 ?_
                  refine lv_topi (fun x_153 ex_153 => ?_)
                  obtain rfl : x_153 = 0 := ex_153.trans (by decide)
                  refine lv_iload_n hx hb dX8_copies_192 rfl (lv_at hl 0 rfl) ?_
                  refine lv_iadd hx hb dX8_copies_193 ?_
                  refine va_lald hx hb hK hP 2 1 rfl rfl (vp_in_iff.mpr (by have hx9 := k_addg (a := 0) (b := x_142) (by decide) (by omega); simp only [Int32.reduceToInt] at hx9; omega)) dX8_copies_194 ?_
                  refine lv_goto (tgt := 201) hx hb dX8_copies_195 (by decide) ?_
                  refine lv_topl (fun x_154 ex_154 => ?_)
                  refine lv_lstore (lv' := [(4, .long x_154), (3, .int x_142), (2, .int 0), (1, .int 1), (0, .ref m0)]) hx hb dX8_copies_201 hl (by decide) rfl (fun ls hl => ?_)
                  refine lv_lload hx hb dX8_copies_203 (lv_at hl 0 rfl) ?_
                  refine lv_ldc2 (v := (-9)) hx hb hown (hts (.constantLong RX8 107 (-9)) (List.mem_of_getElem? (i := 8) rfl)) dX8_copies_205 ?_
                  refine W.lcmp hx hb dX8_copies_208 ?_
                  refine lv_if_eq (tgt := 230) hx hb dX8_copies_209 (by decide) (fun c_209_154 => ?_) (fun c_209_154 => ?_)
                  · have t_209_154 := c_209_154
                    try simp only [kb_eq0, kb_ne0, lg_cmp_lt, lg_cmp_le, lg_cmp_gt, lg_cmp_ge, lg_cmp_eq] at t_209_154
                    try simp only [Int32.lt_iff_toInt_lt, Int32.le_iff_toInt_le, ← Int32.toInt_inj, Int64.lt_iff_toInt_lt, Int64.le_iff_toInt_le, ← Int64.toInt_inj, Int32.toInt_toInt64, Int32.reduceToInt, Int64.reduceToInt] at t_209_154
                    refine lv_lload hx hb dX8_copies_230 (lv_at hl 0 rfl) ?_
                    refine lv_lconst (v := 0) hx hb dX8_copies_232 (by decide) ?_
                    refine W.lcmp hx hb dX8_copies_233 ?_
                    refine lv_if_lt (tgt := 246) hx hb dX8_copies_234 (by decide) (fun c_234_155 => ?_) (fun c_234_155 => ?_)
                    · have t_234_155 := c_234_155
                      try simp only [kb_eq0, kb_ne0, lg_cmp_lt, lg_cmp_le, lg_cmp_gt, lg_cmp_ge, lg_cmp_eq] at t_234_155
                      try simp only [Int32.lt_iff_toInt_lt, Int32.le_iff_toInt_le, ← Int32.toInt_inj, Int64.lt_iff_toInt_lt, Int64.le_iff_toInt_le, ← Int64.toInt_inj, Int32.toInt_toInt64, Int32.reduceToInt, Int64.reduceToInt] at t_234_155
                      refine lv_aload_n hx hb dX8_copies_246 rfl (lv_at hl 4 rfl) ?_
                      refine lv_iconst (v := 0) hx hb dX8_copies_247 (by decide) ?_
                      refine va_put (D := D) (ci := 8) (v := .int 0) (ty := .int) (C := RX8) (T := TX8) (N := 31) hx hb hts iX8_copies_X8 tyX8 tyX8_ok nmX8 hown hK hP hD hS 0 rfl rfl 12 (by decide) (hts (.fieldLink RX8 43 "TapeCalculatorModel" "chosen" "I") (List.mem_of_getElem? (i := 1) rfl)) (fun _ h9 => h9) rfl (by decide +kernel) rfl rfl (Nat.le_of_ble_eq_true rfl) dX8_copies_248 (fun H locs hP hD hS => ?_)
                      have hP : va_P D vwCl [(m0, .inr (8, [.ref mH, .int aM, .long aC, .int mM, .long mQ, .int oV, .int pL, .int lI, .int sW, .int dP, .int sT, .long aT, .int 0, .int iW, .ref mI, .ref mJ, .ref mS, .ref mD, .int iH, .int aE, .int mN, .long sZ, .ref mX, .int tS, .int tA, .int tW, .ref mA, .ref mB, .ref mW, .ref mL, .int lS])), (mH, .inl (cI, 512, .inl fH)), (mI, .inl (cL, 1200, .inr (.inl fI))), (mJ, .inl (cI, 4, .inl (k4i j0 j1 j2 j3))), (mS, .inl (cI, 4, .inl (k4i s0 s1 s2 s3))), (mD, .inl (cL, 256, .inr (.inl fD)))] H := hP
                      have hD : va_D A [(m0, .inr (8, [.ref mH, .int aM, .long aC, .int mM, .long mQ, .int oV, .int pL, .int lI, .int sW, .int dP, .int sT, .long aT, .int 0, .int iW, .ref mI, .ref mJ, .ref mS, .ref mD, .int iH, .int aE, .int mN, .long sZ, .ref mX, .int tS, .int tA, .int tW, .ref mA, .ref mB, .ref mW, .ref mL, .int lS])), (mH, .inl (cI, 512, .inl fH)), (mI, .inl (cL, 1200, .inr (.inl fI))), (mJ, .inl (cI, 4, .inl (k4i j0 j1 j2 j3))), (mS, .inl (cI, 4, .inl (k4i s0 s1 s2 s3))), (mD, .inl (cL, 256, .inr (.inl fD)))] := hD
                      refine lv_aload_n hx hb dX8_copies_251 rfl (lv_at hl 4 rfl) ?_
                      refine lv_lload hx hb dX8_copies_252 (lv_at hl 0 rfl) ?_
                      refine lv_ldc2 (v := (-2)) hx hb hown (hts (.constantLong RX8 111 (-2)) (List.mem_of_getElem? (i := 9) rfl)) dX8_copies_254 ?_
                      refine W.lcmp hx hb dX8_copies_257 ?_
                      refine lv_if_ne (tgt := 265) hx hb dX8_copies_258 (by decide) (fun c_258_156 => ?_) (fun c_258_156 => ?_)
                      · have t_258_156 := c_258_156
                        try simp only [kb_eq0, kb_ne0, lg_cmp_lt, lg_cmp_le, lg_cmp_gt, lg_cmp_ge, lg_cmp_eq] at t_258_156
                        try simp only [Int32.lt_iff_toInt_lt, Int32.le_iff_toInt_le, ← Int32.toInt_inj, Int64.lt_iff_toInt_lt, Int64.le_iff_toInt_le, ← Int64.toInt_inj, Int32.toInt_toInt64, Int32.reduceToInt, Int64.reduceToInt] at t_258_156
                        refine lv_iconst (v := 1) hx hb dX8_copies_265 (by decide) ?_
                        refine kCallVd (wr := [(mH, .inl (cI, 512, .inl fH)), (mI, .inl (cL, 1200, .inr (.inl fI))), (mJ, .inl (cI, 4, .inl (k4i j0 j1 j2 j3))), (mS, .inl (cI, 4, .inl (k4i s0 s1 s2 s3))), (mD, .inl (cL, 256, .inr (.inl fD)))]) (va_runV (As := [.int 1]) (rest := []) ⟨hx, hb, hml, hown, hts⟩ (q_go l D cI cL cB cZ cT _ m0 mH mI mJ mS mD mX mA mB mW mL aM aC mM mQ oV pL lI sW dP sT aT 0 iW iH aE mN sZ tS tA tW lS 1) (cwV 1 hts gX8_copies_X8_go rfl rfl rfl (by decide +kernel) ⟨Nat.le_of_ble_eq_true rfl, Nat.le_of_ble_eq_true rfl⟩) (kPreV hG hP hD [0] rfl (by decide) 0 8 rfl rfl rfl) rfl rfl hl.1 rfl (lv_room (Nat.le_of_ble_eq_true rfl)) dX8_copies_266 ⟨Nat.le_of_ble_eq_true rfl, Nat.le_of_ble_eq_true rfl⟩) hA hP hD hS [0] [1, 2, 3, 4, 5] rfl rfl (by decide) (by decide) (fun _ u_r_158 H locs wr_158 hP hD hS => ?_)
                        have hP : va_P D vwCl [(mH, .inl (cI, 512, .inl fH)), (mI, .inl (cL, 1200, .inr (.inl fI))), (mJ, .inl (cI, 4, .inl (k4i j0 j1 j2 j3))), (mS, .inl (cI, 4, .inl (k4i s0 s1 s2 s3))), (mD, .inl (cL, 256, .inr (.inl fD))), (m0, .inr (8, [.ref mH, .int aM, .long aC, .int mM, .long mQ, .int oV, .int u_r_158, .int lI, .int sW, .int dP, .int sT, .long aT, .int 0, .int iW, .ref mI, .ref mJ, .ref mS, .ref mD, .int iH, .int aE, .int mN, .long sZ, .ref mX, .int tS, .int tA, .int tW, .ref mA, .ref mB, .ref mW, .ref mL, .int lS]))] H := hP
                        have hD : va_D A [(mH, .inl (cI, 512, .inl fH)), (mI, .inl (cL, 1200, .inr (.inl fI))), (mJ, .inl (cI, 4, .inl (k4i j0 j1 j2 j3))), (mS, .inl (cI, 4, .inl (k4i s0 s1 s2 s3))), (mD, .inl (cL, 256, .inr (.inl fD))), (m0, .inr (8, [.ref mH, .int aM, .long aC, .int mM, .long mQ, .int oV, .int u_r_158, .int lI, .int sW, .int dP, .int sT, .long aT, .int 0, .int iW, .ref mI, .ref mJ, .ref mS, .ref mD, .int iH, .int aE, .int mN, .long sZ, .ref mX, .int tS, .int tA, .int tW, .ref mA, .ref mB, .ref mW, .ref mL, .int lS]))] := hD
                        try dsimp only at wr_158
                        try simp only [Int32.reduceToInt, Int64.reduceToInt] at wr_158
                        refine lv_iconst (v := 0) hx hb dX8_copies_269 (by decide) ?_
                        refine kIret (u := (u_r_158, dP, 0, iW, fH, fD, fI, j0, j1, j2, j3, s0, s1, s2, s3)) hx hb hr rfl hlocks hS dX8_copies_270 ?_ (hP.sub [5, 0, 1, 2, 3, 4] rfl) (hD.sub [5, 0, 1, 2, 3, 4] (by decide) rfl)
                        try dsimp only
                        try simp only [Int32.reduceToInt, Int64.reduceToInt, true_or, or_true, true_and, and_true]
                        try rw [← ex_142] at hk8
                        try rw [← ex_154] at hk8
                        repeat' apply And.intro
                        all_goals first | assumption | omega
                      · have t_258_156 := c_258_156
                        try simp only [kb_eq0, kb_ne0, lg_cmp_lt, lg_cmp_le, lg_cmp_gt, lg_cmp_ge, lg_cmp_eq] at t_258_156
                        try simp only [Int32.lt_iff_toInt_lt, Int32.le_iff_toInt_le, ← Int32.toInt_inj, Int64.lt_iff_toInt_lt, Int64.le_iff_toInt_le, ← Int64.toInt_inj, Int32.toInt_toInt64, Int32.reduceToInt, Int64.reduceToInt] at t_258_156
                        refine lv_iconst (v := 2) hx hb dX8_copies_261 (by decide) ?_
                        refine lv_goto (tgt := 266) hx hb dX8_copies_262 (by decide) ?_
                        refine kCallVd (wr := [(mH, .inl (cI, 512, .inl fH)), (mI, .inl (cL, 1200, .inr (.inl fI))), (mJ, .inl (cI, 4, .inl (k4i j0 j1 j2 j3))), (mS, .inl (cI, 4, .inl (k4i s0 s1 s2 s3))), (mD, .inl (cL, 256, .inr (.inl fD)))]) (va_runV (As := [.int 2]) (rest := []) ⟨hx, hb, hml, hown, hts⟩ (q_go l D cI cL cB cZ cT _ m0 mH mI mJ mS mD mX mA mB mW mL aM aC mM mQ oV pL lI sW dP sT aT 0 iW iH aE mN sZ tS tA tW lS 2) (cwV 1 hts gX8_copies_X8_go rfl rfl rfl (by decide +kernel) ⟨Nat.le_of_ble_eq_true rfl, Nat.le_of_ble_eq_true rfl⟩) (kPreV hG hP hD [0] rfl (by decide) 0 8 rfl rfl rfl) rfl rfl hl.1 rfl (lv_room (Nat.le_of_ble_eq_true rfl)) dX8_copies_266 ⟨Nat.le_of_ble_eq_true rfl, Nat.le_of_ble_eq_true rfl⟩) hA hP hD hS [0] [1, 2, 3, 4, 5] rfl rfl (by decide) (by decide) (fun _ u_r_159 H locs wr_159 hP hD hS => ?_)
                        have hP : va_P D vwCl [(mH, .inl (cI, 512, .inl fH)), (mI, .inl (cL, 1200, .inr (.inl fI))), (mJ, .inl (cI, 4, .inl (k4i j0 j1 j2 j3))), (mS, .inl (cI, 4, .inl (k4i s0 s1 s2 s3))), (mD, .inl (cL, 256, .inr (.inl fD))), (m0, .inr (8, [.ref mH, .int aM, .long aC, .int mM, .long mQ, .int oV, .int u_r_159, .int lI, .int sW, .int dP, .int sT, .long aT, .int 0, .int iW, .ref mI, .ref mJ, .ref mS, .ref mD, .int iH, .int aE, .int mN, .long sZ, .ref mX, .int tS, .int tA, .int tW, .ref mA, .ref mB, .ref mW, .ref mL, .int lS]))] H := hP
                        have hD : va_D A [(mH, .inl (cI, 512, .inl fH)), (mI, .inl (cL, 1200, .inr (.inl fI))), (mJ, .inl (cI, 4, .inl (k4i j0 j1 j2 j3))), (mS, .inl (cI, 4, .inl (k4i s0 s1 s2 s3))), (mD, .inl (cL, 256, .inr (.inl fD))), (m0, .inr (8, [.ref mH, .int aM, .long aC, .int mM, .long mQ, .int oV, .int u_r_159, .int lI, .int sW, .int dP, .int sT, .long aT, .int 0, .int iW, .ref mI, .ref mJ, .ref mS, .ref mD, .int iH, .int aE, .int mN, .long sZ, .ref mX, .int tS, .int tA, .int tW, .ref mA, .ref mB, .ref mW, .ref mL, .int lS]))] := hD
                        try dsimp only at wr_159
                        try simp only [Int32.reduceToInt, Int64.reduceToInt] at wr_159
                        refine lv_iconst (v := 0) hx hb dX8_copies_269 (by decide) ?_
                        refine kIret (u := (u_r_159, dP, 0, iW, fH, fD, fI, j0, j1, j2, j3, s0, s1, s2, s3)) hx hb hr rfl hlocks hS dX8_copies_270 ?_ (hP.sub [5, 0, 1, 2, 3, 4] rfl) (hD.sub [5, 0, 1, 2, 3, 4] (by decide) rfl)
                        try dsimp only
                        try simp only [Int32.reduceToInt, Int64.reduceToInt, true_or, or_true, true_and, and_true]
                        try rw [← ex_142] at hk8
                        try rw [← ex_154] at hk8
                        repeat' apply And.intro
                        all_goals first | assumption | omega
                    · have t_234_155 := c_234_155
                      try simp only [kb_eq0, kb_ne0, lg_cmp_lt, lg_cmp_le, lg_cmp_gt, lg_cmp_ge, lg_cmp_eq] at t_234_155
                      try simp only [Int32.lt_iff_toInt_lt, Int32.le_iff_toInt_le, ← Int32.toInt_inj, Int64.lt_iff_toInt_lt, Int64.le_iff_toInt_le, ← Int64.toInt_inj, Int32.toInt_toInt64, Int32.reduceToInt, Int64.reduceToInt] at t_234_155
                      refine lv_aload_n hx hb dX8_copies_237 rfl (lv_at hl 4 rfl) ?_
                      refine lv_lload hx hb dX8_copies_238 (lv_at hl 0 rfl) ?_
                      refine kCallVd (wr := [(mI, .inl (cL, 1200, .inr (.inl fI))), (mJ, .inl (cI, 4, .inl (k4i j0 j1 j2 j3))), (mS, .inl (cI, 4, .inl (k4i s0 s1 s2 s3))), (mD, .inl (cL, 256, .inr (.inl fD)))]) (va_runV (As := [.long x_154]) (rest := []) ⟨hx, hb, hml, hown, hts⟩ (q_store l D cI cL cB cZ cT _ m0 mH mI mJ mS mD mX mA mB mW mL aM aC mM mQ oV pL lI sW dP sT aT 5 iW iH aE mN sZ tS tA tW lS fH x_154 (by omega)) (cwV 1 hts gX8_copies_X8_store rfl rfl rfl (by decide +kernel) ⟨Nat.le_of_ble_eq_true rfl, Nat.le_of_ble_eq_true rfl⟩) (kPreV hG hP hD [0, 1] rfl (by decide) 0 8 rfl rfl rfl) rfl rfl hl.1 rfl (lv_room (Nat.le_of_ble_eq_true rfl)) dX8_copies_240 ⟨Nat.le_of_ble_eq_true rfl, Nat.le_of_ble_eq_true rfl⟩) hA hP hD hS [0, 1] [2, 3, 4, 5] rfl rfl (by decide) (by decide) (fun _ u_r_160 H locs wr_160 hP hD hS => ?_)
                      have hP : va_P D vwCl [(mI, .inl (cL, 1200, .inr (.inl fI))), (mJ, .inl (cI, 4, .inl (k4i j0 j1 j2 j3))), (mS, .inl (cI, 4, .inl (k4i s0 s1 s2 s3))), (mD, .inl (cL, 256, .inr (.inl fD))), (m0, .inr (8, [.ref mH, .int aM, .long aC, .int mM, .long mQ, .int oV, .int pL, .int lI, .int sW, .int dP, .int sT, .long aT, .int 5, .int iW, .ref mI, .ref mJ, .ref mS, .ref mD, .int iH, .int aE, .int mN, .long sZ, .ref mX, .int tS, .int tA, .int tW, .ref mA, .ref mB, .ref mW, .ref mL, .int lS])), (mH, .inl (cI, 512, .inl u_r_160))] H := hP
                      have hD : va_D A [(mI, .inl (cL, 1200, .inr (.inl fI))), (mJ, .inl (cI, 4, .inl (k4i j0 j1 j2 j3))), (mS, .inl (cI, 4, .inl (k4i s0 s1 s2 s3))), (mD, .inl (cL, 256, .inr (.inl fD))), (m0, .inr (8, [.ref mH, .int aM, .long aC, .int mM, .long mQ, .int oV, .int pL, .int lI, .int sW, .int dP, .int sT, .long aT, .int 5, .int iW, .ref mI, .ref mJ, .ref mS, .ref mD, .int iH, .int aE, .int mN, .long sZ, .ref mX, .int tS, .int tA, .int tW, .ref mA, .ref mB, .ref mW, .ref mL, .int lS])), (mH, .inl (cI, 512, .inl u_r_160))] := hD
                      try dsimp only at wr_160
                      try simp only [Int32.reduceToInt, Int64.reduceToInt] at wr_160
                      refine lv_goto (tgt := 269) hx hb dX8_copies_243 (by decide) ?_
                      refine lv_iconst (v := 0) hx hb dX8_copies_269 (by decide) ?_
                      refine kIret (u := (pL, dP, 5, iW, u_r_160, fD, fI, j0, j1, j2, j3, s0, s1, s2, s3)) hx hb hr rfl hlocks hS dX8_copies_270 ?_ (hP.sub [4, 5, 0, 1, 2, 3] rfl) (hD.sub [4, 5, 0, 1, 2, 3] (by decide) rfl)
                      try dsimp only
                      try simp only [Int32.reduceToInt, Int64.reduceToInt, true_or, or_true, true_and, and_true]
                      try rw [← ex_142] at hk8
                      try rw [← ex_154] at hk8
                      repeat' apply And.intro
                      all_goals first | assumption | omega
                  · have t_209_154 := c_209_154
                    try simp only [kb_eq0, kb_ne0, lg_cmp_lt, lg_cmp_le, lg_cmp_gt, lg_cmp_ge, lg_cmp_eq] at t_209_154
                    try simp only [Int32.lt_iff_toInt_lt, Int32.le_iff_toInt_le, ← Int32.toInt_inj, Int64.lt_iff_toInt_lt, Int64.le_iff_toInt_le, ← Int64.toInt_inj, Int32.toInt_toInt64, Int32.reduceToInt, Int64.reduceToInt] at t_209_154
                    refine lv_aload_n hx hb dX8_copies_212 rfl (lv_at hl 4 rfl) ?_
                    refine va_get (D := D) (ci := 8) (v := .ref mS) (C := RX8) (T := TX8) (N := 31) hx hb hts iX8_copies_X8 hown hK hP 0 rfl rfl 16 (by decide) (hts (.fieldLink RX8 20 "TapeCalculatorModel" "stands" "[I") (List.mem_of_getElem? (i := 5) rfl)) (fun _ h9 => h9) rfl dX8_copies_213 ?_
                    refine lv_iload_n hx hb dX8_copies_216 rfl (lv_at hl 2 rfl) ?_
                    refine lv_dup2_11 hx hb dX8_copies_217 rfl rfl ?_
                    refine va_iald hx hb hK hP 4 0 rfl rfl (vp_in_iff.mpr (by decide)) dX8_copies_218 ?_
                    refine lv_topi (fun x_161 ex_161 => ?_)
                    obtain rfl : s0 = x_161 := ex_161.symm
                    refine lv_iload_n hx hb dX8_copies_219 rfl (lv_at hl 3 rfl) ?_
                    refine lv_if_eq (tgt := 227) hx hb dX8_copies_220 (by decide) (fun c_220_161 => ?_) (fun c_220_161 => ?_)
                    · exact absurd c_220_161 (by decide)
                    · have t_220_161 := c_220_161
                      try simp only [kb_eq0, kb_ne0, lg_cmp_lt, lg_cmp_le, lg_cmp_gt, lg_cmp_ge, lg_cmp_eq] at t_220_161
                      try simp only [Int32.lt_iff_toInt_lt, Int32.le_iff_toInt_le, ← Int32.toInt_inj, Int64.lt_iff_toInt_lt, Int64.le_iff_toInt_le, ← Int64.toInt_inj, Int32.toInt_toInt64, Int32.reduceToInt, Int64.reduceToInt] at t_220_161
                      refine lv_iconst (v := (-1)) hx hb dX8_copies_223 (by decide) ?_
                      refine lv_goto (tgt := 228) hx hb dX8_copies_224 (by decide) ?_
                      refine lv_iadd hx hb dX8_copies_228 ?_
                      refine va_iast hx hb hK hP hD hS 4 0 rfl rfl (vp_in_iff.mpr (by decide)) dX8_copies_229 (fun H locs hP hD hS => ?_)
                      rw [k4i_0] at hP hD
                      have hP : va_P D vwCl [(m0, .inr (8, [.ref mH, .int aM, .long aC, .int mM, .long mQ, .int oV, .int pL, .int lI, .int sW, .int dP, .int sT, .long aT, .int 5, .int iW, .ref mI, .ref mJ, .ref mS, .ref mD, .int iH, .int aE, .int mN, .long sZ, .ref mX, .int tS, .int tA, .int tW, .ref mA, .ref mB, .ref mW, .ref mL, .int lS])), (mH, .inl (cI, 512, .inl fH)), (mI, .inl (cL, 1200, .inr (.inl fI))), (mJ, .inl (cI, 4, .inl (k4i j0 j1 j2 j3))), (mS, .inl (cI, 4, .inl (k4i (s0 + (-1)) s1 s2 s3))), (mD, .inl (cL, 256, .inr (.inl fD)))] H := hP
                      have hD : va_D A [(m0, .inr (8, [.ref mH, .int aM, .long aC, .int mM, .long mQ, .int oV, .int pL, .int lI, .int sW, .int dP, .int sT, .long aT, .int 5, .int iW, .ref mI, .ref mJ, .ref mS, .ref mD, .int iH, .int aE, .int mN, .long sZ, .ref mX, .int tS, .int tA, .int tW, .ref mA, .ref mB, .ref mW, .ref mL, .int lS])), (mH, .inl (cI, 512, .inl fH)), (mI, .inl (cL, 1200, .inr (.inl fI))), (mJ, .inl (cI, 4, .inl (k4i j0 j1 j2 j3))), (mS, .inl (cI, 4, .inl (k4i (s0 + (-1)) s1 s2 s3))), (mD, .inl (cL, 256, .inr (.inl fD)))] := hD
                      refine lv_lload hx hb dX8_copies_230 (lv_at hl 0 rfl) ?_
                      refine lv_lconst (v := 0) hx hb dX8_copies_232 (by decide) ?_
                      refine W.lcmp hx hb dX8_copies_233 ?_
                      refine lv_if_lt (tgt := 246) hx hb dX8_copies_234 (by decide) (fun c_234_162 => ?_) (fun c_234_162 => ?_)
                      · have t_234_162 := c_234_162
                        try simp only [kb_eq0, kb_ne0, lg_cmp_lt, lg_cmp_le, lg_cmp_gt, lg_cmp_ge, lg_cmp_eq] at t_234_162
                        try simp only [Int32.lt_iff_toInt_lt, Int32.le_iff_toInt_le, ← Int32.toInt_inj, Int64.lt_iff_toInt_lt, Int64.le_iff_toInt_le, ← Int64.toInt_inj, Int32.toInt_toInt64, Int32.reduceToInt, Int64.reduceToInt] at t_234_162
                        refine lv_aload_n hx hb dX8_copies_246 rfl (lv_at hl 4 rfl) ?_
                        refine lv_iconst (v := 0) hx hb dX8_copies_247 (by decide) ?_
                        refine va_put (D := D) (ci := 8) (v := .int 0) (ty := .int) (C := RX8) (T := TX8) (N := 31) hx hb hts iX8_copies_X8 tyX8 tyX8_ok nmX8 hown hK hP hD hS 0 rfl rfl 12 (by decide) (hts (.fieldLink RX8 43 "TapeCalculatorModel" "chosen" "I") (List.mem_of_getElem? (i := 1) rfl)) (fun _ h9 => h9) rfl (by decide +kernel) rfl rfl (Nat.le_of_ble_eq_true rfl) dX8_copies_248 (fun H locs hP hD hS => ?_)
                        have hP : va_P D vwCl [(m0, .inr (8, [.ref mH, .int aM, .long aC, .int mM, .long mQ, .int oV, .int pL, .int lI, .int sW, .int dP, .int sT, .long aT, .int 0, .int iW, .ref mI, .ref mJ, .ref mS, .ref mD, .int iH, .int aE, .int mN, .long sZ, .ref mX, .int tS, .int tA, .int tW, .ref mA, .ref mB, .ref mW, .ref mL, .int lS])), (mH, .inl (cI, 512, .inl fH)), (mI, .inl (cL, 1200, .inr (.inl fI))), (mJ, .inl (cI, 4, .inl (k4i j0 j1 j2 j3))), (mS, .inl (cI, 4, .inl (k4i (s0 + (-1)) s1 s2 s3))), (mD, .inl (cL, 256, .inr (.inl fD)))] H := hP
                        have hD : va_D A [(m0, .inr (8, [.ref mH, .int aM, .long aC, .int mM, .long mQ, .int oV, .int pL, .int lI, .int sW, .int dP, .int sT, .long aT, .int 0, .int iW, .ref mI, .ref mJ, .ref mS, .ref mD, .int iH, .int aE, .int mN, .long sZ, .ref mX, .int tS, .int tA, .int tW, .ref mA, .ref mB, .ref mW, .ref mL, .int lS])), (mH, .inl (cI, 512, .inl fH)), (mI, .inl (cL, 1200, .inr (.inl fI))), (mJ, .inl (cI, 4, .inl (k4i j0 j1 j2 j3))), (mS, .inl (cI, 4, .inl (k4i (s0 + (-1)) s1 s2 s3))), (mD, .inl (cL, 256, .inr (.inl fD)))] := hD
                        refine lv_aload_n hx hb dX8_copies_251 rfl (lv_at hl 4 rfl) ?_
                        refine lv_lload hx hb dX8_copies_252 (lv_at hl 0 rfl) ?_
                        refine lv_ldc2 (v := (-2)) hx hb hown (hts (.constantLong RX8 111 (-2)) (List.mem_of_getElem? (i := 9) rfl)) dX8_copies_254 ?_
                        refine W.lcmp hx hb dX8_copies_257 ?_
                        refine lv_if_ne (tgt := 265) hx hb dX8_copies_258 (by decide) (fun c_258_163 => ?_) (fun c_258_163 => ?_)
                        · have t_258_163 := c_258_163
                          try simp only [kb_eq0, kb_ne0, lg_cmp_lt, lg_cmp_le, lg_cmp_gt, lg_cmp_ge, lg_cmp_eq] at t_258_163
                          try simp only [Int32.lt_iff_toInt_lt, Int32.le_iff_toInt_le, ← Int32.toInt_inj, Int64.lt_iff_toInt_lt, Int64.le_iff_toInt_le, ← Int64.toInt_inj, Int32.toInt_toInt64, Int32.reduceToInt, Int64.reduceToInt] at t_258_163
                          refine lv_iconst (v := 1) hx hb dX8_copies_265 (by decide) ?_
                          refine kCallVd (wr := [(mH, .inl (cI, 512, .inl fH)), (mI, .inl (cL, 1200, .inr (.inl fI))), (mJ, .inl (cI, 4, .inl (k4i j0 j1 j2 j3))), (mS, .inl (cI, 4, .inl (k4i (s0 + (-1)) s1 s2 s3))), (mD, .inl (cL, 256, .inr (.inl fD)))]) (va_runV (As := [.int 1]) (rest := []) ⟨hx, hb, hml, hown, hts⟩ (q_go l D cI cL cB cZ cT _ m0 mH mI mJ mS mD mX mA mB mW mL aM aC mM mQ oV pL lI sW dP sT aT 0 iW iH aE mN sZ tS tA tW lS 1) (cwV 1 hts gX8_copies_X8_go rfl rfl rfl (by decide +kernel) ⟨Nat.le_of_ble_eq_true rfl, Nat.le_of_ble_eq_true rfl⟩) (kPreV hG hP hD [0] rfl (by decide) 0 8 rfl rfl rfl) rfl rfl hl.1 rfl (lv_room (Nat.le_of_ble_eq_true rfl)) dX8_copies_266 ⟨Nat.le_of_ble_eq_true rfl, Nat.le_of_ble_eq_true rfl⟩) hA hP hD hS [0] [1, 2, 3, 4, 5] rfl rfl (by decide) (by decide) (fun _ u_r_165 H locs wr_165 hP hD hS => ?_)
                          have hP : va_P D vwCl [(mH, .inl (cI, 512, .inl fH)), (mI, .inl (cL, 1200, .inr (.inl fI))), (mJ, .inl (cI, 4, .inl (k4i j0 j1 j2 j3))), (mS, .inl (cI, 4, .inl (k4i (s0 + (-1)) s1 s2 s3))), (mD, .inl (cL, 256, .inr (.inl fD))), (m0, .inr (8, [.ref mH, .int aM, .long aC, .int mM, .long mQ, .int oV, .int u_r_165, .int lI, .int sW, .int dP, .int sT, .long aT, .int 0, .int iW, .ref mI, .ref mJ, .ref mS, .ref mD, .int iH, .int aE, .int mN, .long sZ, .ref mX, .int tS, .int tA, .int tW, .ref mA, .ref mB, .ref mW, .ref mL, .int lS]))] H := hP
                          have hD : va_D A [(mH, .inl (cI, 512, .inl fH)), (mI, .inl (cL, 1200, .inr (.inl fI))), (mJ, .inl (cI, 4, .inl (k4i j0 j1 j2 j3))), (mS, .inl (cI, 4, .inl (k4i (s0 + (-1)) s1 s2 s3))), (mD, .inl (cL, 256, .inr (.inl fD))), (m0, .inr (8, [.ref mH, .int aM, .long aC, .int mM, .long mQ, .int oV, .int u_r_165, .int lI, .int sW, .int dP, .int sT, .long aT, .int 0, .int iW, .ref mI, .ref mJ, .ref mS, .ref mD, .int iH, .int aE, .int mN, .long sZ, .ref mX, .int tS, .int tA, .int tW, .ref mA, .ref mB, .ref mW, .ref mL, .int lS]))] := hD
                          try dsimp only at wr_165
                          try simp only [Int32.reduceToInt, Int64.reduceToInt] at wr_165
                          refine lv_iconst (v := 0) hx hb dX8_copies_269 (by decide) ?_
                          refine kIret (u := (u_r_165, dP, 0, iW, fH, fD, fI, j0, j1, j2, j3, (s0 + (-1)), s1, s2, s3)) hx hb hr rfl hlocks hS dX8_copies_270 ?_ (hP.sub [5, 0, 1, 2, 3, 4] rfl) (hD.sub [5, 0, 1, 2, 3, 4] (by decide) rfl)
                          try dsimp only
                          try simp only [Int32.reduceToInt, Int64.reduceToInt, true_or, or_true, true_and, and_true]
                          try rw [← ex_142] at hk8
                          try rw [← ex_154] at hk8
                          repeat' apply And.intro
                          all_goals first | assumption | omega
                        · have t_258_163 := c_258_163
                          try simp only [kb_eq0, kb_ne0, lg_cmp_lt, lg_cmp_le, lg_cmp_gt, lg_cmp_ge, lg_cmp_eq] at t_258_163
                          try simp only [Int32.lt_iff_toInt_lt, Int32.le_iff_toInt_le, ← Int32.toInt_inj, Int64.lt_iff_toInt_lt, Int64.le_iff_toInt_le, ← Int64.toInt_inj, Int32.toInt_toInt64, Int32.reduceToInt, Int64.reduceToInt] at t_258_163
                          refine lv_iconst (v := 2) hx hb dX8_copies_261 (by decide) ?_
                          refine lv_goto (tgt := 266) hx hb dX8_copies_262 (by decide) ?_
                          refine kCallVd (wr := [(mH, .inl (cI, 512, .inl fH)), (mI, .inl (cL, 1200, .inr (.inl fI))), (mJ, .inl (cI, 4, .inl (k4i j0 j1 j2 j3))), (mS, .inl (cI, 4, .inl (k4i (s0 + (-1)) s1 s2 s3))), (mD, .inl (cL, 256, .inr (.inl fD)))]) (va_runV (As := [.int 2]) (rest := []) ⟨hx, hb, hml, hown, hts⟩ (q_go l D cI cL cB cZ cT _ m0 mH mI mJ mS mD mX mA mB mW mL aM aC mM mQ oV pL lI sW dP sT aT 0 iW iH aE mN sZ tS tA tW lS 2) (cwV 1 hts gX8_copies_X8_go rfl rfl rfl (by decide +kernel) ⟨Nat.le_of_ble_eq_true rfl, Nat.le_of_ble_eq_true rfl⟩) (kPreV hG hP hD [0] rfl (by decide) 0 8 rfl rfl rfl) rfl rfl hl.1 rfl (lv_room (Nat.le_of_ble_eq_true rfl)) dX8_copies_266 ⟨Nat.le_of_ble_eq_true rfl, Nat.le_of_ble_eq_true rfl⟩) hA hP hD hS [0] [1, 2, 3, 4, 5] rfl rfl (by decide) (by decide) (fun _ u_r_166 H locs wr_166 hP hD hS => ?_)
                          have hP : va_P D vwCl [(mH, .inl (cI, 512, .inl fH)), (mI, .inl (cL, 1200, .inr (.inl fI))), (mJ, .inl (cI, 4, .inl (k4i j0 j1 j2 j3))), (mS, .inl (cI, 4, .inl (k4i (s0 + (-1)) s1 s2 s3))), (mD, .inl (cL, 256, .inr (.inl fD))), (m0, .inr (8, [.ref mH, .int aM, .long aC, .int mM, .long mQ, .int oV, .int u_r_166, .int lI, .int sW, .int dP, .int sT, .long aT, .int 0, .int iW, .ref mI, .ref mJ, .ref mS, .ref mD, .int iH, .int aE, .int mN, .long sZ, .ref mX, .int tS, .int tA, .int tW, .ref mA, .ref mB, .ref mW, .ref mL, .int lS]))] H := hP
                          have hD : va_D A [(mH, .inl (cI, 512, .inl fH)), (mI, .inl (cL, 1200, .inr (.inl fI))), (mJ, .inl (cI, 4, .inl (k4i j0 j1 j2 j3))), (mS, .inl (cI, 4, .inl (k4i (s0 + (-1)) s1 s2 s3))), (mD, .inl (cL, 256, .inr (.inl fD))), (m0, .inr (8, [.ref mH, .int aM, .long aC, .int mM, .long mQ, .int oV, .int u_r_166, .int lI, .int sW, .int dP, .int sT, .long aT, .int 0, .int iW, .ref mI, .ref mJ, .ref mS, .ref mD, .int iH, .int aE, .int mN, .long sZ, .ref mX, .int tS, .int tA, .int tW, .ref mA, .ref mB, .ref mW, .ref mL, .int lS]))] := hD
                          try dsimp only at wr_166
                          try simp only [Int32.reduceToInt, Int64.reduceToInt] at wr_166
                          refine lv_iconst (v := 0) hx hb dX8_copies_269 (by decide) ?_
                          refine kIret (u := (u_r_166, dP, 0, iW, fH, fD, fI, j0, j1, j2, j3, (s0 + (-1)), s1, s2, s3)) hx hb hr rfl hlocks hS dX8_copies_270 ?_ (hP.sub [5, 0, 1, 2, 3, 4] rfl) (hD.sub [5, 0, 1, 2, 3, 4] (by decide) rfl)
                          try dsimp only
                          try simp only [Int32.reduceToInt, Int64.reduceToInt, true_or, or_true, true_and, and_true]
                          try rw [← ex_142] at hk8
                          try rw [← ex_154] at hk8
                          repeat' apply And.intro
                          all_goals first | assumption | omega
                      · have t_234_162 := c_234_162
                        try simp only [kb_eq0, kb_ne0, lg_cmp_lt, lg_cmp_le, lg_cmp_gt, lg_cmp_ge, lg_cmp_eq] at t_234_162
                        try simp only [Int32.lt_iff_toInt_lt, Int32.le_iff_toInt_le, ← Int32.toInt_inj, Int64.lt_iff_toInt_lt, Int64.le_iff_toInt_le, ← Int64.toInt_inj, Int32.toInt_toInt64, Int32.reduceToInt, Int64.reduceToInt] at t_234_162
                        refine lv_aload_n hx hb dX8_copies_237 rfl (lv_at hl 4 rfl) ?_
                        refine lv_lload hx hb dX8_copies_238 (lv_at hl 0 rfl) ?_
                        refine kCallVd (wr := [(mI, .inl (cL, 1200, .inr (.inl fI))), (mJ, .inl (cI, 4, .inl (k4i j0 j1 j2 j3))), (mS, .inl (cI, 4, .inl (k4i (s0 + (-1)) s1 s2 s3))), (mD, .inl (cL, 256, .inr (.inl fD)))]) (va_runV (As := [.long x_154]) (rest := []) ⟨hx, hb, hml, hown, hts⟩ (q_store l D cI cL cB cZ cT _ m0 mH mI mJ mS mD mX mA mB mW mL aM aC mM mQ oV pL lI sW dP sT aT 5 iW iH aE mN sZ tS tA tW lS fH x_154 (by omega)) (cwV 1 hts gX8_copies_X8_store rfl rfl rfl (by decide +kernel) ⟨Nat.le_of_ble_eq_true rfl, Nat.le_of_ble_eq_true rfl⟩) (kPreV hG hP hD [0, 1] rfl (by decide) 0 8 rfl rfl rfl) rfl rfl hl.1 rfl (lv_room (Nat.le_of_ble_eq_true rfl)) dX8_copies_240 ⟨Nat.le_of_ble_eq_true rfl, Nat.le_of_ble_eq_true rfl⟩) hA hP hD hS [0, 1] [2, 3, 4, 5] rfl rfl (by decide) (by decide) (fun _ u_r_167 H locs wr_167 hP hD hS => ?_)
                        have hP : va_P D vwCl [(mI, .inl (cL, 1200, .inr (.inl fI))), (mJ, .inl (cI, 4, .inl (k4i j0 j1 j2 j3))), (mS, .inl (cI, 4, .inl (k4i (s0 + (-1)) s1 s2 s3))), (mD, .inl (cL, 256, .inr (.inl fD))), (m0, .inr (8, [.ref mH, .int aM, .long aC, .int mM, .long mQ, .int oV, .int pL, .int lI, .int sW, .int dP, .int sT, .long aT, .int 5, .int iW, .ref mI, .ref mJ, .ref mS, .ref mD, .int iH, .int aE, .int mN, .long sZ, .ref mX, .int tS, .int tA, .int tW, .ref mA, .ref mB, .ref mW, .ref mL, .int lS])), (mH, .inl (cI, 512, .inl u_r_167))] H := hP
                        have hD : va_D A [(mI, .inl (cL, 1200, .inr (.inl fI))), (mJ, .inl (cI, 4, .inl (k4i j0 j1 j2 j3))), (mS, .inl (cI, 4, .inl (k4i (s0 + (-1)) s1 s2 s3))), (mD, .inl (cL, 256, .inr (.inl fD))), (m0, .inr (8, [.ref mH, .int aM, .long aC, .int mM, .long mQ, .int oV, .int pL, .int lI, .int sW, .int dP, .int sT, .long aT, .int 5, .int iW, .ref mI, .ref mJ, .ref mS, .ref mD, .int iH, .int aE, .int mN, .long sZ, .ref mX, .int tS, .int tA, .int tW, .ref mA, .ref mB, .ref mW, .ref mL, .int lS])), (mH, .inl (cI, 512, .inl u_r_167))] := hD
                        try dsimp only at wr_167
                        try simp only [Int32.reduceToInt, Int64.reduceToInt] at wr_167
                        refine lv_goto (tgt := 269) hx hb dX8_copies_243 (by decide) ?_
                        refine lv_iconst (v := 0) hx hb dX8_copies_269 (by decide) ?_
                        refine kIret (u := (pL, dP, 5, iW, u_r_167, fD, fI, j0, j1, j2, j3, (s0 + (-1)), s1, s2, s3)) hx hb hr rfl hlocks hS dX8_copies_270 ?_ (hP.sub [4, 5, 0, 1, 2, 3] rfl) (hD.sub [4, 5, 0, 1, 2, 3] (by decide) rfl)
                        try dsimp only
                        try simp only [Int32.reduceToInt, Int64.reduceToInt, true_or, or_true, true_and, and_true]
                        try rw [← ex_142] at hk8
                        try rw [← ex_154] at hk8
                        repeat' apply And.intro
                        all_goals first | assumption | omega
        · exact absurd (by decide) c_79_135
      · exact absurd (by decide) c_16_134
    · exact absurd c_4_133 (by decide)
  · have hk8 := k_and (x := dP + 1) (m := 255) 8 (by decide) (by decide)
    have hs0 := k_sub (a := j1) (b := 1) (by omega) (by decide)
    simp only [Int32.reduceToInt] at hs0
    have hs1 := k_sub (a := s1) (b := 1) (by omega) (by decide)
    simp only [Int32.reduceToInt] at hs1
    have hs2 := k_addg (a := s1) (b := 1) (by omega) (by decide)
    have hs3 := k_addg (a := s1) (b := (-1)) (by omega) (by decide)
    simp only [Int32.reduceToInt, show (-1 : Int32).toInt = -1 from rfl] at hs2 hs3
    refine lv_aload_n hx hb dX8_copies_0 rfl (lv_at hl 0 rfl) ?_
    refine va_get (D := D) (ci := 8) (v := .int 6) (C := RX8) (T := TX8) (N := 31) hx hb hts iX8_copies_X8 hown hK hP 0 rfl rfl 12 (by decide) (hts (.fieldLink RX8 43 "TapeCalculatorModel" "chosen" "I") (List.mem_of_getElem? (i := 1) rfl)) (fun _ h9 => h9) rfl dX8_copies_1 ?_
    refine lv_if_ne (tgt := 10) hx hb dX8_copies_4 (by decide) (fun c_4_167 => ?_) (fun c_4_167 => ?_)
    · have t_4_167 := c_4_167
      try simp only [kb_eq0, kb_ne0, lg_cmp_lt, lg_cmp_le, lg_cmp_gt, lg_cmp_ge, lg_cmp_eq] at t_4_167
      try simp only [Int32.lt_iff_toInt_lt, Int32.le_iff_toInt_le, ← Int32.toInt_inj, Int64.lt_iff_toInt_lt, Int64.le_iff_toInt_le, ← Int64.toInt_inj, Int32.toInt_toInt64, Int32.reduceToInt, Int64.reduceToInt] at t_4_167
      refine lv_aload_n hx hb dX8_copies_10 rfl (lv_at hl 0 rfl) ?_
      refine va_get (D := D) (ci := 8) (v := .int 6) (C := RX8) (T := TX8) (N := 31) hx hb hts iX8_copies_X8 hown hK hP 0 rfl rfl 12 (by decide) (hts (.fieldLink RX8 43 "TapeCalculatorModel" "chosen" "I") (List.mem_of_getElem? (i := 1) rfl)) (fun _ h9 => h9) rfl dX8_copies_11 ?_
      refine lv_bipush (v := 12) hx hb dX8_copies_14 (by decide) ?_
      refine lv_icmp_le (tgt := 73) hx hb dX8_copies_16 (by decide) (fun c_16_168 => ?_) (fun c_16_168 => ?_)
      · have t_16_168 := c_16_168
        try simp only [kb_eq0, kb_ne0, lg_cmp_lt, lg_cmp_le, lg_cmp_gt, lg_cmp_ge, lg_cmp_eq] at t_16_168
        try simp only [Int32.lt_iff_toInt_lt, Int32.le_iff_toInt_le, ← Int32.toInt_inj, Int64.lt_iff_toInt_lt, Int64.le_iff_toInt_le, ← Int64.toInt_inj, Int32.toInt_toInt64, Int32.reduceToInt, Int64.reduceToInt] at t_16_168
        refine lv_aload_n hx hb dX8_copies_73 rfl (lv_at hl 0 rfl) ?_
        refine va_get (D := D) (ci := 8) (v := .int 6) (C := RX8) (T := TX8) (N := 31) hx hb hts iX8_copies_X8 hown hK hP 0 rfl rfl 12 (by decide) (hts (.fieldLink RX8 43 "TapeCalculatorModel" "chosen" "I") (List.mem_of_getElem? (i := 1) rfl)) (fun _ h9 => h9) rfl dX8_copies_74 ?_
        refine lv_bipush (v := 8) hx hb dX8_copies_77 (by decide) ?_
        refine lv_icmp_le (tgt := 109) hx hb dX8_copies_79 (by decide) (fun c_79_169 => ?_) (fun c_79_169 => ?_)
        · have t_79_169 := c_79_169
          try simp only [kb_eq0, kb_ne0, lg_cmp_lt, lg_cmp_le, lg_cmp_gt, lg_cmp_ge, lg_cmp_eq] at t_79_169
          try simp only [Int32.lt_iff_toInt_lt, Int32.le_iff_toInt_le, ← Int32.toInt_inj, Int64.lt_iff_toInt_lt, Int64.le_iff_toInt_le, ← Int64.toInt_inj, Int32.toInt_toInt64, Int32.reduceToInt, Int64.reduceToInt] at t_79_169
          refine lv_aload_n hx hb dX8_copies_109 rfl (lv_at hl 0 rfl) ?_
          refine va_get (D := D) (ci := 8) (v := .int 6) (C := RX8) (T := TX8) (N := 31) hx hb hts iX8_copies_X8 hown hK hP 0 rfl rfl 12 (by decide) (hts (.fieldLink RX8 43 "TapeCalculatorModel" "chosen" "I") (List.mem_of_getElem? (i := 1) rfl)) (fun _ h9 => h9) rfl dX8_copies_110 ?_
          refine lv_iconst (v := 4) hx hb dX8_copies_113 (by decide) ?_
          refine lv_icmp_le (tgt := 121) hx hb dX8_copies_114 (by decide) (fun c_114_170 => ?_) (fun c_114_170 => ?_)
          · exact absurd c_114_170 (by decide)
          · have t_114_170 := c_114_170
            try simp only [kb_eq0, kb_ne0, lg_cmp_lt, lg_cmp_le, lg_cmp_gt, lg_cmp_ge, lg_cmp_eq] at t_114_170
            try simp only [Int32.lt_iff_toInt_lt, Int32.le_iff_toInt_le, ← Int32.toInt_inj, Int64.lt_iff_toInt_lt, Int64.le_iff_toInt_le, ← Int64.toInt_inj, Int32.toInt_toInt64, Int32.reduceToInt, Int64.reduceToInt] at t_114_170
            refine lv_iconst (v := 1) hx hb dX8_copies_117 (by decide) ?_
            refine lv_goto (tgt := 122) hx hb dX8_copies_118 (by decide) ?_
            refine lv_istore_n (lv' := [(1, .int 1), (0, .ref m0)]) hx hb dX8_copies_122 rfl hl (by decide) rfl (fun ls hl => ?_)
            refine lv_iload_n hx hb dX8_copies_123 rfl (lv_at hl 0 rfl) ?_
            refine lv_if_eq (tgt := 136) hx hb dX8_copies_124 (by decide) (fun c_124_171 => ?_) (fun c_124_171 => ?_)
            · exact absurd c_124_171 (by decide)
            · have t_124_171 := c_124_171
              try simp only [kb_eq0, kb_ne0, lg_cmp_lt, lg_cmp_le, lg_cmp_gt, lg_cmp_ge, lg_cmp_eq] at t_124_171
              try simp only [Int32.lt_iff_toInt_lt, Int32.le_iff_toInt_le, ← Int32.toInt_inj, Int64.lt_iff_toInt_lt, Int64.le_iff_toInt_le, ← Int64.toInt_inj, Int32.toInt_toInt64, Int32.reduceToInt, Int64.reduceToInt] at t_124_171
              refine lv_aload_n hx hb dX8_copies_127 rfl (lv_at hl 1 rfl) ?_
              refine va_get (D := D) (ci := 8) (v := .int 6) (C := RX8) (T := TX8) (N := 31) hx hb hts iX8_copies_X8 hown hK hP 0 rfl rfl 12 (by decide) (hts (.fieldLink RX8 43 "TapeCalculatorModel" "chosen" "I") (List.mem_of_getElem? (i := 1) rfl)) (fun _ h9 => h9) rfl dX8_copies_128 ?_
              refine lv_iconst (v := 5) hx hb dX8_copies_131 (by decide) ?_
              refine lv_isub hx hb dX8_copies_132 ?_
              refine lv_topi (fun x_173 ex_173 => ?_)
              obtain rfl : x_173 = 1 := ex_173.trans (by decide)
              refine lv_goto (tgt := 142) hx hb dX8_copies_133 (by decide) ?_
              refine lv_istore_n (lv' := [(2, .int 1), (1, .int 1), (0, .ref m0)]) hx hb dX8_copies_142 rfl hl (by decide) rfl (fun ls hl => ?_)
              refine lv_iload_n hx hb dX8_copies_143 rfl (lv_at hl 1 rfl) ?_
              refine lv_if_eq (tgt := 158) hx hb dX8_copies_144 (by decide) (fun c_144_173 => ?_) (fun c_144_173 => ?_)
              · exact absurd c_144_173 (by decide)
              · have t_144_173 := c_144_173
                try simp only [kb_eq0, kb_ne0, lg_cmp_lt, lg_cmp_le, lg_cmp_gt, lg_cmp_ge, lg_cmp_eq] at t_144_173
                try simp only [Int32.lt_iff_toInt_lt, Int32.le_iff_toInt_le, ← Int32.toInt_inj, Int64.lt_iff_toInt_lt, Int64.le_iff_toInt_le, ← Int64.toInt_inj, Int32.toInt_toInt64, Int32.reduceToInt, Int64.reduceToInt] at t_144_173
                refine lv_aload_n hx hb dX8_copies_147 rfl (lv_at hl 2 rfl) ?_
                refine va_get (D := D) (ci := 8) (v := .ref mS) (C := RX8) (T := TX8) (N := 31) hx hb hts iX8_copies_X8 hown hK hP 0 rfl rfl 16 (by decide) (hts (.fieldLink RX8 20 "TapeCalculatorModel" "stands" "[I") (List.mem_of_getElem? (i := 5) rfl)) (fun _ h9 => h9) rfl dX8_copies_148 ?_
                refine lv_iload_n hx hb dX8_copies_151 rfl (lv_at hl 0 rfl) ?_
                refine va_iald hx hb hK hP 4 0 rfl rfl (vp_in_iff.mpr (by decide)) dX8_copies_152 ?_
                refine lv_topi (fun x_175 ex_175 => ?_)
                obtain rfl : s1 = x_175 := ex_175.symm
                refine lv_iconst (v := 1) hx hb dX8_copies_153 (by decide) ?_
                refine lv_isub hx hb dX8_copies_154 ?_
                refine lv_goto (tgt := 164) hx hb dX8_copies_155 (by decide) ?_
                refine lv_topi (fun x_176 ex_176 => ?_)
                refine lv_istore_n (lv' := [(3, .int x_176), (2, .int 1), (1, .int 1), (0, .ref m0)]) hx hb dX8_copies_164 rfl hl (by decide) rfl (fun ls hl => ?_)
                rw [← ex_176] at hs1
                refine lv_iload_n hx hb dX8_copies_165 rfl (lv_at hl 0 rfl) ?_
                refine lv_i2l hx hb dX8_copies_166 rfl ?_
                refine lv_lconst (v := 0) hx hb dX8_copies_167 (by decide) ?_
                refine lv_aload_n hx hb dX8_copies_168 rfl (lv_at hl 3 rfl) ?_
                refine va_get (D := D) (ci := 8) (v := .ref mJ) (C := RX8) (T := TX8) (N := 31) hx hb hts iX8_copies_X8 hown hK hP 0 rfl rfl 15 (by decide) (hts (.fieldLink RX8 17 "TapeCalculatorModel" "items" "[I") (List.mem_of_getElem? (i := 6) rfl)) (fun _ h9 => h9) rfl dX8_copies_169 ?_
                refine lv_iload_n hx hb dX8_copies_172 rfl (lv_at hl 1 rfl) ?_
                refine va_iald hx hb hK hP 3 0 rfl rfl (vp_in_iff.mpr (by decide)) dX8_copies_173 ?_
                refine lv_topi (fun x_177 ex_177 => ?_)
                obtain rfl : j1 = x_177 := ex_177.symm
                refine lv_iconst (v := 1) hx hb dX8_copies_174 (by decide) ?_
                refine lv_isub hx hb dX8_copies_175 ?_
                refine lv_i2l hx hb dX8_copies_176 rfl ?_
                refine kCallI (wr := [(m0, .inr (8, [.ref mH, .int aM, .long aC, .int mM, .long mQ, .int oV, .int pL, .int lI, .int sW, .int dP, .int sT, .long aT, .int 6, .int iW, .ref mI, .ref mJ, .ref mS, .ref mD, .int iH, .int aE, .int mN, .long sZ, .ref mX, .int tS, .int tA, .int tW, .ref mA, .ref mB, .ref mW, .ref mL, .int lS])), (mH, .inl (cI, 512, .inl fH)), (mI, .inl (cL, 1200, .inr (.inl fI))), (mJ, .inl (cI, 4, .inl (k4i j0 j1 j2 j3))), (mS, .inl (cI, 4, .inl (k4i s0 s1 s2 s3))), (mD, .inl (cL, 256, .inr (.inl fD)))]) (va_runS (As := [.long x_176.toInt64, .long 0, .long (j1 - 1).toInt64]) (rest := []) ⟨hx, hb, hml, hown, hts⟩ (q_in l D cI cL cB cZ cT _ (x_176.toInt64) 0 (j1 - 1).toInt64) (va_cwS 3 hts gX8_copies_X8_in rfl rfl rfl (by decide +kernel) ⟨Nat.le_of_ble_eq_true rfl, Nat.le_of_ble_eq_true rfl⟩) (kPreS hG hP hD [] rfl (by decide)) rfl rfl hl.1 rfl (lv_room (Nat.le_of_ble_eq_true rfl)) dX8_copies_177 ⟨Nat.le_of_ble_eq_true rfl, Nat.le_of_ble_eq_true rfl⟩) hA hP hD hS [] [0, 1, 2, 3, 4, 5] rfl rfl (by decide) (by decide) (fun r_178 u_r_178 H locs wr_178 hP hD hS => ?_)
                have hP : va_P D vwCl [(m0, .inr (8, [.ref mH, .int aM, .long aC, .int mM, .long mQ, .int oV, .int pL, .int lI, .int sW, .int dP, .int sT, .long aT, .int 6, .int iW, .ref mI, .ref mJ, .ref mS, .ref mD, .int iH, .int aE, .int mN, .long sZ, .ref mX, .int tS, .int tA, .int tW, .ref mA, .ref mB, .ref mW, .ref mL, .int lS])), (mH, .inl (cI, 512, .inl fH)), (mI, .inl (cL, 1200, .inr (.inl fI))), (mJ, .inl (cI, 4, .inl (k4i j0 j1 j2 j3))), (mS, .inl (cI, 4, .inl (k4i s0 s1 s2 s3))), (mD, .inl (cL, 256, .inr (.inl fD)))] H := hP
                have hD : va_D A [(m0, .inr (8, [.ref mH, .int aM, .long aC, .int mM, .long mQ, .int oV, .int pL, .int lI, .int sW, .int dP, .int sT, .long aT, .int 6, .int iW, .ref mI, .ref mJ, .ref mS, .ref mD, .int iH, .int aE, .int mN, .long sZ, .ref mX, .int tS, .int tA, .int tW, .ref mA, .ref mB, .ref mW, .ref mL, .int lS])), (mH, .inl (cI, 512, .inl fH)), (mI, .inl (cL, 1200, .inr (.inl fI))), (mJ, .inl (cI, 4, .inl (k4i j0 j1 j2 j3))), (mS, .inl (cI, 4, .inl (k4i s0 s1 s2 s3))), (mD, .inl (cL, 256, .inr (.inl fD)))] := hD
                try dsimp only at wr_178
                subst wr_178
                refine lv_if_eq (tgt := 198) hx hb dX8_copies_180 (by decide) (fun c_180_178 => ?_) (fun c_180_178 => ?_)
                · have t_180_178 := c_180_178
                  try simp only [kb_eq0, kb_ne0, lg_cmp_lt, lg_cmp_le, lg_cmp_gt, lg_cmp_ge, lg_cmp_eq] at t_180_178
                  try simp only [Int32.lt_iff_toInt_lt, Int32.le_iff_toInt_le, ← Int32.toInt_inj, Int64.lt_iff_toInt_lt, Int64.le_iff_toInt_le, ← Int64.toInt_inj, Int32.toInt_toInt64, Int32.reduceToInt, Int64.reduceToInt] at t_180_178
                  refine lv_ldc2 (v := (-9)) hx hb hown (hts (.constantLong RX8 107 (-9)) (List.mem_of_getElem? (i := 8) rfl)) dX8_copies_198 ?_
                  refine lv_lstore (lv' := [(4, .long (-9)), (3, .int x_176), (2, .int 1), (1, .int 1), (0, .ref m0)]) hx hb dX8_copies_201 hl (by decide) rfl (fun ls hl => ?_)
                  refine lv_lload hx hb dX8_copies_203 (lv_at hl 0 rfl) ?_
                  refine lv_ldc2 (v := (-9)) hx hb hown (hts (.constantLong RX8 107 (-9)) (List.mem_of_getElem? (i := 8) rfl)) dX8_copies_205 ?_
                  refine W.lcmp hx hb dX8_copies_208 ?_
                  refine lv_topi (fun x_180 ex_180 => ?_)
                  obtain rfl : x_180 = 0 := ex_180.trans (by decide)
                  refine lv_if_eq (tgt := 230) hx hb dX8_copies_209 (by decide) (fun c_209_180 => ?_) (fun c_209_180 => ?_)
                  · have t_209_180 := c_209_180
                    try simp only [kb_eq0, kb_ne0, lg_cmp_lt, lg_cmp_le, lg_cmp_gt, lg_cmp_ge, lg_cmp_eq] at t_209_180
                    try simp only [Int32.lt_iff_toInt_lt, Int32.le_iff_toInt_le, ← Int32.toInt_inj, Int64.lt_iff_toInt_lt, Int64.le_iff_toInt_le, ← Int64.toInt_inj, Int32.toInt_toInt64, Int32.reduceToInt, Int64.reduceToInt] at t_209_180
                    refine lv_lload hx hb dX8_copies_230 (lv_at hl 0 rfl) ?_
                    refine lv_lconst (v := 0) hx hb dX8_copies_232 (by decide) ?_
                    refine W.lcmp hx hb dX8_copies_233 ?_
                    refine lv_topi (fun x_182 ex_182 => ?_)
                    obtain rfl : x_182 = (-1) := ex_182.trans (by decide)
                    refine lv_if_lt (tgt := 246) hx hb dX8_copies_234 (by decide) (fun c_234_182 => ?_) (fun c_234_182 => ?_)
                    · have t_234_182 := c_234_182
                      try simp only [kb_eq0, kb_ne0, lg_cmp_lt, lg_cmp_le, lg_cmp_gt, lg_cmp_ge, lg_cmp_eq] at t_234_182
                      try simp only [Int32.lt_iff_toInt_lt, Int32.le_iff_toInt_le, ← Int32.toInt_inj, Int64.lt_iff_toInt_lt, Int64.le_iff_toInt_le, ← Int64.toInt_inj, Int32.toInt_toInt64, Int32.reduceToInt, Int64.reduceToInt] at t_234_182
                      refine lv_aload_n hx hb dX8_copies_246 rfl (lv_at hl 4 rfl) ?_
                      refine lv_iconst (v := 0) hx hb dX8_copies_247 (by decide) ?_
                      refine va_put (D := D) (ci := 8) (v := .int 0) (ty := .int) (C := RX8) (T := TX8) (N := 31) hx hb hts iX8_copies_X8 tyX8 tyX8_ok nmX8 hown hK hP hD hS 0 rfl rfl 12 (by decide) (hts (.fieldLink RX8 43 "TapeCalculatorModel" "chosen" "I") (List.mem_of_getElem? (i := 1) rfl)) (fun _ h9 => h9) rfl (by decide +kernel) rfl rfl (Nat.le_of_ble_eq_true rfl) dX8_copies_248 (fun H locs hP hD hS => ?_)
                      have hP : va_P D vwCl [(m0, .inr (8, [.ref mH, .int aM, .long aC, .int mM, .long mQ, .int oV, .int pL, .int lI, .int sW, .int dP, .int sT, .long aT, .int 0, .int iW, .ref mI, .ref mJ, .ref mS, .ref mD, .int iH, .int aE, .int mN, .long sZ, .ref mX, .int tS, .int tA, .int tW, .ref mA, .ref mB, .ref mW, .ref mL, .int lS])), (mH, .inl (cI, 512, .inl fH)), (mI, .inl (cL, 1200, .inr (.inl fI))), (mJ, .inl (cI, 4, .inl (k4i j0 j1 j2 j3))), (mS, .inl (cI, 4, .inl (k4i s0 s1 s2 s3))), (mD, .inl (cL, 256, .inr (.inl fD)))] H := hP
                      have hD : va_D A [(m0, .inr (8, [.ref mH, .int aM, .long aC, .int mM, .long mQ, .int oV, .int pL, .int lI, .int sW, .int dP, .int sT, .long aT, .int 0, .int iW, .ref mI, .ref mJ, .ref mS, .ref mD, .int iH, .int aE, .int mN, .long sZ, .ref mX, .int tS, .int tA, .int tW, .ref mA, .ref mB, .ref mW, .ref mL, .int lS])), (mH, .inl (cI, 512, .inl fH)), (mI, .inl (cL, 1200, .inr (.inl fI))), (mJ, .inl (cI, 4, .inl (k4i j0 j1 j2 j3))), (mS, .inl (cI, 4, .inl (k4i s0 s1 s2 s3))), (mD, .inl (cL, 256, .inr (.inl fD)))] := hD
                      refine lv_aload_n hx hb dX8_copies_251 rfl (lv_at hl 4 rfl) ?_
                      refine lv_lload hx hb dX8_copies_252 (lv_at hl 0 rfl) ?_
                      refine lv_ldc2 (v := (-2)) hx hb hown (hts (.constantLong RX8 111 (-2)) (List.mem_of_getElem? (i := 9) rfl)) dX8_copies_254 ?_
                      refine W.lcmp hx hb dX8_copies_257 ?_
                      refine lv_topi (fun x_184 ex_184 => ?_)
                      obtain rfl : x_184 = (-1) := ex_184.trans (by decide)
                      refine lv_if_ne (tgt := 265) hx hb dX8_copies_258 (by decide) (fun c_258_184 => ?_) (fun c_258_184 => ?_)
                      · have t_258_184 := c_258_184
                        try simp only [kb_eq0, kb_ne0, lg_cmp_lt, lg_cmp_le, lg_cmp_gt, lg_cmp_ge, lg_cmp_eq] at t_258_184
                        try simp only [Int32.lt_iff_toInt_lt, Int32.le_iff_toInt_le, ← Int32.toInt_inj, Int64.lt_iff_toInt_lt, Int64.le_iff_toInt_le, ← Int64.toInt_inj, Int32.toInt_toInt64, Int32.reduceToInt, Int64.reduceToInt] at t_258_184
                        refine lv_iconst (v := 1) hx hb dX8_copies_265 (by decide) ?_
                        refine kCallVd (wr := [(mH, .inl (cI, 512, .inl fH)), (mI, .inl (cL, 1200, .inr (.inl fI))), (mJ, .inl (cI, 4, .inl (k4i j0 j1 j2 j3))), (mS, .inl (cI, 4, .inl (k4i s0 s1 s2 s3))), (mD, .inl (cL, 256, .inr (.inl fD)))]) (va_runV (As := [.int 1]) (rest := []) ⟨hx, hb, hml, hown, hts⟩ (q_go l D cI cL cB cZ cT _ m0 mH mI mJ mS mD mX mA mB mW mL aM aC mM mQ oV pL lI sW dP sT aT 0 iW iH aE mN sZ tS tA tW lS 1) (cwV 1 hts gX8_copies_X8_go rfl rfl rfl (by decide +kernel) ⟨Nat.le_of_ble_eq_true rfl, Nat.le_of_ble_eq_true rfl⟩) (kPreV hG hP hD [0] rfl (by decide) 0 8 rfl rfl rfl) rfl rfl hl.1 rfl (lv_room (Nat.le_of_ble_eq_true rfl)) dX8_copies_266 ⟨Nat.le_of_ble_eq_true rfl, Nat.le_of_ble_eq_true rfl⟩) hA hP hD hS [0] [1, 2, 3, 4, 5] rfl rfl (by decide) (by decide) (fun _ u_r_186 H locs wr_186 hP hD hS => ?_)
                        have hP : va_P D vwCl [(mH, .inl (cI, 512, .inl fH)), (mI, .inl (cL, 1200, .inr (.inl fI))), (mJ, .inl (cI, 4, .inl (k4i j0 j1 j2 j3))), (mS, .inl (cI, 4, .inl (k4i s0 s1 s2 s3))), (mD, .inl (cL, 256, .inr (.inl fD))), (m0, .inr (8, [.ref mH, .int aM, .long aC, .int mM, .long mQ, .int oV, .int u_r_186, .int lI, .int sW, .int dP, .int sT, .long aT, .int 0, .int iW, .ref mI, .ref mJ, .ref mS, .ref mD, .int iH, .int aE, .int mN, .long sZ, .ref mX, .int tS, .int tA, .int tW, .ref mA, .ref mB, .ref mW, .ref mL, .int lS]))] H := hP
                        have hD : va_D A [(mH, .inl (cI, 512, .inl fH)), (mI, .inl (cL, 1200, .inr (.inl fI))), (mJ, .inl (cI, 4, .inl (k4i j0 j1 j2 j3))), (mS, .inl (cI, 4, .inl (k4i s0 s1 s2 s3))), (mD, .inl (cL, 256, .inr (.inl fD))), (m0, .inr (8, [.ref mH, .int aM, .long aC, .int mM, .long mQ, .int oV, .int u_r_186, .int lI, .int sW, .int dP, .int sT, .long aT, .int 0, .int iW, .ref mI, .ref mJ, .ref mS, .ref mD, .int iH, .int aE, .int mN, .long sZ, .ref mX, .int tS, .int tA, .int tW, .ref mA, .ref mB, .ref mW, .ref mL, .int lS]))] := hD
                        try dsimp only at wr_186
                        try simp only [Int32.reduceToInt, Int64.reduceToInt] at wr_186
                        refine lv_iconst (v := 0) hx hb dX8_copies_269 (by decide) ?_
                        refine kIret (u := (u_r_186, dP, 0, iW, fH, fD, fI, j0, j1, j2, j3, s0, s1, s2, s3)) hx hb hr rfl hlocks hS dX8_copies_270 ?_ (hP.sub [5, 0, 1, 2, 3, 4] rfl) (hD.sub [5, 0, 1, 2, 3, 4] (by decide) rfl)
                        try dsimp only
                        try simp only [Int32.reduceToInt, Int64.reduceToInt, true_or, or_true, true_and, and_true]
                        try rw [← ex_176] at hk8
                        repeat' apply And.intro
                        all_goals first | assumption | omega
                      · exact absurd c_258_184 (by decide)
                    · exact absurd (by decide) c_234_182
                  · exact absurd (by decide) c_209_180
                · have t_180_178 := c_180_178
                  try simp only [kb_eq0, kb_ne0, lg_cmp_lt, lg_cmp_le, lg_cmp_gt, lg_cmp_ge, lg_cmp_eq] at t_180_178
                  try simp only [Int32.lt_iff_toInt_lt, Int32.le_iff_toInt_le, ← Int32.toInt_inj, Int64.lt_iff_toInt_lt, Int64.le_iff_toInt_le, ← Int64.toInt_inj, Int32.toInt_toInt64, Int32.reduceToInt, Int64.reduceToInt] at t_180_178
                  refine lv_aload_n hx hb dX8_copies_183 rfl (lv_at hl 3 rfl) ?_
                  refine va_get (D := D) (ci := 8) (v := .ref mI) (C := RX8) (T := TX8) (N := 31) hx hb hts iX8_copies_X8 hown hK hP 0 rfl rfl 14 (by decide) (hts (.fieldLink RX8 13 "TapeCalculatorModel" "item" "[J") (List.mem_of_getElem? (i := 7) rfl)) (fun _ h9 => h9) rfl dX8_copies_184 ?_
                  refine lv_sipush (v := 300) hx hb dX8_copies_187 (by decide) ?_
                  refine lv_iload_n hx hb dX8_copies_190 rfl (lv_at hl 1 rfl) ?_
                  refine lv_imul hx hb dX8_copies_191 ?_
                  refine lv_topi (fun x_187 ex_187 => ?_)
                  obtain rfl : x_187 = 300 := ex_187.trans (by decide)
                  refine lv_iload_n hx hb dX8_copies_192 rfl (lv_at hl 0 rfl) ?_
                  refine lv_iadd hx hb dX8_copies_193 ?_
                  refine va_lald hx hb hK hP 2 1 rfl rfl (vp_in_iff.mpr (by have hx9 := k_addg (a := 300) (b := x_176) (by decide) (by omega); simp only [Int32.reduceToInt] at hx9; omega)) dX8_copies_194 ?_
                  refine lv_goto (tgt := 201) hx hb dX8_copies_195 (by decide) ?_
                  refine lv_topl (fun x_188 ex_188 => ?_)
                  refine lv_lstore (lv' := [(4, .long x_188), (3, .int x_176), (2, .int 1), (1, .int 1), (0, .ref m0)]) hx hb dX8_copies_201 hl (by decide) rfl (fun ls hl => ?_)
                  refine lv_lload hx hb dX8_copies_203 (lv_at hl 0 rfl) ?_
                  refine lv_ldc2 (v := (-9)) hx hb hown (hts (.constantLong RX8 107 (-9)) (List.mem_of_getElem? (i := 8) rfl)) dX8_copies_205 ?_
                  refine W.lcmp hx hb dX8_copies_208 ?_
                  refine lv_if_eq (tgt := 230) hx hb dX8_copies_209 (by decide) (fun c_209_188 => ?_) (fun c_209_188 => ?_)
                  · have t_209_188 := c_209_188
                    try simp only [kb_eq0, kb_ne0, lg_cmp_lt, lg_cmp_le, lg_cmp_gt, lg_cmp_ge, lg_cmp_eq] at t_209_188
                    try simp only [Int32.lt_iff_toInt_lt, Int32.le_iff_toInt_le, ← Int32.toInt_inj, Int64.lt_iff_toInt_lt, Int64.le_iff_toInt_le, ← Int64.toInt_inj, Int32.toInt_toInt64, Int32.reduceToInt, Int64.reduceToInt] at t_209_188
                    refine lv_lload hx hb dX8_copies_230 (lv_at hl 0 rfl) ?_
                    refine lv_lconst (v := 0) hx hb dX8_copies_232 (by decide) ?_
                    refine W.lcmp hx hb dX8_copies_233 ?_
                    refine lv_if_lt (tgt := 246) hx hb dX8_copies_234 (by decide) (fun c_234_189 => ?_) (fun c_234_189 => ?_)
                    · have t_234_189 := c_234_189
                      try simp only [kb_eq0, kb_ne0, lg_cmp_lt, lg_cmp_le, lg_cmp_gt, lg_cmp_ge, lg_cmp_eq] at t_234_189
                      try simp only [Int32.lt_iff_toInt_lt, Int32.le_iff_toInt_le, ← Int32.toInt_inj, Int64.lt_iff_toInt_lt, Int64.le_iff_toInt_le, ← Int64.toInt_inj, Int32.toInt_toInt64, Int32.reduceToInt, Int64.reduceToInt] at t_234_189
                      refine lv_aload_n hx hb dX8_copies_246 rfl (lv_at hl 4 rfl) ?_
                      refine lv_iconst (v := 0) hx hb dX8_copies_247 (by decide) ?_
                      refine va_put (D := D) (ci := 8) (v := .int 0) (ty := .int) (C := RX8) (T := TX8) (N := 31) hx hb hts iX8_copies_X8 tyX8 tyX8_ok nmX8 hown hK hP hD hS 0 rfl rfl 12 (by decide) (hts (.fieldLink RX8 43 "TapeCalculatorModel" "chosen" "I") (List.mem_of_getElem? (i := 1) rfl)) (fun _ h9 => h9) rfl (by decide +kernel) rfl rfl (Nat.le_of_ble_eq_true rfl) dX8_copies_248 (fun H locs hP hD hS => ?_)
                      have hP : va_P D vwCl [(m0, .inr (8, [.ref mH, .int aM, .long aC, .int mM, .long mQ, .int oV, .int pL, .int lI, .int sW, .int dP, .int sT, .long aT, .int 0, .int iW, .ref mI, .ref mJ, .ref mS, .ref mD, .int iH, .int aE, .int mN, .long sZ, .ref mX, .int tS, .int tA, .int tW, .ref mA, .ref mB, .ref mW, .ref mL, .int lS])), (mH, .inl (cI, 512, .inl fH)), (mI, .inl (cL, 1200, .inr (.inl fI))), (mJ, .inl (cI, 4, .inl (k4i j0 j1 j2 j3))), (mS, .inl (cI, 4, .inl (k4i s0 s1 s2 s3))), (mD, .inl (cL, 256, .inr (.inl fD)))] H := hP
                      have hD : va_D A [(m0, .inr (8, [.ref mH, .int aM, .long aC, .int mM, .long mQ, .int oV, .int pL, .int lI, .int sW, .int dP, .int sT, .long aT, .int 0, .int iW, .ref mI, .ref mJ, .ref mS, .ref mD, .int iH, .int aE, .int mN, .long sZ, .ref mX, .int tS, .int tA, .int tW, .ref mA, .ref mB, .ref mW, .ref mL, .int lS])), (mH, .inl (cI, 512, .inl fH)), (mI, .inl (cL, 1200, .inr (.inl fI))), (mJ, .inl (cI, 4, .inl (k4i j0 j1 j2 j3))), (mS, .inl (cI, 4, .inl (k4i s0 s1 s2 s3))), (mD, .inl (cL, 256, .inr (.inl fD)))] := hD
                      refine lv_aload_n hx hb dX8_copies_251 rfl (lv_at hl 4 rfl) ?_
                      refine lv_lload hx hb dX8_copies_252 (lv_at hl 0 rfl) ?_
                      refine lv_ldc2 (v := (-2)) hx hb hown (hts (.constantLong RX8 111 (-2)) (List.mem_of_getElem? (i := 9) rfl)) dX8_copies_254 ?_
                      refine W.lcmp hx hb dX8_copies_257 ?_
                      refine lv_if_ne (tgt := 265) hx hb dX8_copies_258 (by decide) (fun c_258_190 => ?_) (fun c_258_190 => ?_)
                      · have t_258_190 := c_258_190
                        try simp only [kb_eq0, kb_ne0, lg_cmp_lt, lg_cmp_le, lg_cmp_gt, lg_cmp_ge, lg_cmp_eq] at t_258_190
                        try simp only [Int32.lt_iff_toInt_lt, Int32.le_iff_toInt_le, ← Int32.toInt_inj, Int64.lt_iff_toInt_lt, Int64.le_iff_toInt_le, ← Int64.toInt_inj, Int32.toInt_toInt64, Int32.reduceToInt, Int64.reduceToInt] at t_258_190
                        refine lv_iconst (v := 1) hx hb dX8_copies_265 (by decide) ?_
                        refine kCallVd (wr := [(mH, .inl (cI, 512, .inl fH)), (mI, .inl (cL, 1200, .inr (.inl fI))), (mJ, .inl (cI, 4, .inl (k4i j0 j1 j2 j3))), (mS, .inl (cI, 4, .inl (k4i s0 s1 s2 s3))), (mD, .inl (cL, 256, .inr (.inl fD)))]) (va_runV (As := [.int 1]) (rest := []) ⟨hx, hb, hml, hown, hts⟩ (q_go l D cI cL cB cZ cT _ m0 mH mI mJ mS mD mX mA mB mW mL aM aC mM mQ oV pL lI sW dP sT aT 0 iW iH aE mN sZ tS tA tW lS 1) (cwV 1 hts gX8_copies_X8_go rfl rfl rfl (by decide +kernel) ⟨Nat.le_of_ble_eq_true rfl, Nat.le_of_ble_eq_true rfl⟩) (kPreV hG hP hD [0] rfl (by decide) 0 8 rfl rfl rfl) rfl rfl hl.1 rfl (lv_room (Nat.le_of_ble_eq_true rfl)) dX8_copies_266 ⟨Nat.le_of_ble_eq_true rfl, Nat.le_of_ble_eq_true rfl⟩) hA hP hD hS [0] [1, 2, 3, 4, 5] rfl rfl (by decide) (by decide) (fun _ u_r_192 H locs wr_192 hP hD hS => ?_)
                        have hP : va_P D vwCl [(mH, .inl (cI, 512, .inl fH)), (mI, .inl (cL, 1200, .inr (.inl fI))), (mJ, .inl (cI, 4, .inl (k4i j0 j1 j2 j3))), (mS, .inl (cI, 4, .inl (k4i s0 s1 s2 s3))), (mD, .inl (cL, 256, .inr (.inl fD))), (m0, .inr (8, [.ref mH, .int aM, .long aC, .int mM, .long mQ, .int oV, .int u_r_192, .int lI, .int sW, .int dP, .int sT, .long aT, .int 0, .int iW, .ref mI, .ref mJ, .ref mS, .ref mD, .int iH, .int aE, .int mN, .long sZ, .ref mX, .int tS, .int tA, .int tW, .ref mA, .ref mB, .ref mW, .ref mL, .int lS]))] H := hP
                        have hD : va_D A [(mH, .inl (cI, 512, .inl fH)), (mI, .inl (cL, 1200, .inr (.inl fI))), (mJ, .inl (cI, 4, .inl (k4i j0 j1 j2 j3))), (mS, .inl (cI, 4, .inl (k4i s0 s1 s2 s3))), (mD, .inl (cL, 256, .inr (.inl fD))), (m0, .inr (8, [.ref mH, .int aM, .long aC, .int mM, .long mQ, .int oV, .int u_r_192, .int lI, .int sW, .int dP, .int sT, .long aT, .int 0, .int iW, .ref mI, .ref mJ, .ref mS, .ref mD, .int iH, .int aE, .int mN, .long sZ, .ref mX, .int tS, .int tA, .int tW, .ref mA, .ref mB, .ref mW, .ref mL, .int lS]))] := hD
                        try dsimp only at wr_192
                        try simp only [Int32.reduceToInt, Int64.reduceToInt] at wr_192
                        refine lv_iconst (v := 0) hx hb dX8_copies_269 (by decide) ?_
                        refine kIret (u := (u_r_192, dP, 0, iW, fH, fD, fI, j0, j1, j2, j3, s0, s1, s2, s3)) hx hb hr rfl hlocks hS dX8_copies_270 ?_ (hP.sub [5, 0, 1, 2, 3, 4] rfl) (hD.sub [5, 0, 1, 2, 3, 4] (by decide) rfl)
                        try dsimp only
                        try simp only [Int32.reduceToInt, Int64.reduceToInt, true_or, or_true, true_and, and_true]
                        try rw [← ex_176] at hk8
                        try rw [← ex_188] at hk8
                        repeat' apply And.intro
                        all_goals first | assumption | omega
                      · have t_258_190 := c_258_190
                        try simp only [kb_eq0, kb_ne0, lg_cmp_lt, lg_cmp_le, lg_cmp_gt, lg_cmp_ge, lg_cmp_eq] at t_258_190
                        try simp only [Int32.lt_iff_toInt_lt, Int32.le_iff_toInt_le, ← Int32.toInt_inj, Int64.lt_iff_toInt_lt, Int64.le_iff_toInt_le, ← Int64.toInt_inj, Int32.toInt_toInt64, Int32.reduceToInt, Int64.reduceToInt] at t_258_190
                        refine lv_iconst (v := 2) hx hb dX8_copies_261 (by decide) ?_
                        refine lv_goto (tgt := 266) hx hb dX8_copies_262 (by decide) ?_
                        refine kCallVd (wr := [(mH, .inl (cI, 512, .inl fH)), (mI, .inl (cL, 1200, .inr (.inl fI))), (mJ, .inl (cI, 4, .inl (k4i j0 j1 j2 j3))), (mS, .inl (cI, 4, .inl (k4i s0 s1 s2 s3))), (mD, .inl (cL, 256, .inr (.inl fD)))]) (va_runV (As := [.int 2]) (rest := []) ⟨hx, hb, hml, hown, hts⟩ (q_go l D cI cL cB cZ cT _ m0 mH mI mJ mS mD mX mA mB mW mL aM aC mM mQ oV pL lI sW dP sT aT 0 iW iH aE mN sZ tS tA tW lS 2) (cwV 1 hts gX8_copies_X8_go rfl rfl rfl (by decide +kernel) ⟨Nat.le_of_ble_eq_true rfl, Nat.le_of_ble_eq_true rfl⟩) (kPreV hG hP hD [0] rfl (by decide) 0 8 rfl rfl rfl) rfl rfl hl.1 rfl (lv_room (Nat.le_of_ble_eq_true rfl)) dX8_copies_266 ⟨Nat.le_of_ble_eq_true rfl, Nat.le_of_ble_eq_true rfl⟩) hA hP hD hS [0] [1, 2, 3, 4, 5] rfl rfl (by decide) (by decide) (fun _ u_r_193 H locs wr_193 hP hD hS => ?_)
                        have hP : va_P D vwCl [(mH, .inl (cI, 512, .inl fH)), (mI, .inl (cL, 1200, .inr (.inl fI))), (mJ, .inl (cI, 4, .inl (k4i j0 j1 j2 j3))), (mS, .inl (cI, 4, .inl (k4i s0 s1 s2 s3))), (mD, .inl (cL, 256, .inr (.inl fD))), (m0, .inr (8, [.ref mH, .int aM, .long aC, .int mM, .long mQ, .int oV, .int u_r_193, .int lI, .int sW, .int dP, .int sT, .long aT, .int 0, .int iW, .ref mI, .ref mJ, .ref mS, .ref mD, .int iH, .int aE, .int mN, .long sZ, .ref mX, .int tS, .int tA, .int tW, .ref mA, .ref mB, .ref mW, .ref mL, .int lS]))] H := hP
                        have hD : va_D A [(mH, .inl (cI, 512, .inl fH)), (mI, .inl (cL, 1200, .inr (.inl fI))), (mJ, .inl (cI, 4, .inl (k4i j0 j1 j2 j3))), (mS, .inl (cI, 4, .inl (k4i s0 s1 s2 s3))), (mD, .inl (cL, 256, .inr (.inl fD))), (m0, .inr (8, [.ref mH, .int aM, .long aC, .int mM, .long mQ, .int oV, .int u_r_193, .int lI, .int sW, .int dP, .int sT, .long aT, .int 0, .int iW, .ref mI, .ref mJ, .ref mS, .ref mD, .int iH, .int aE, .int mN, .long sZ, .ref mX, .int tS, .int tA, .int tW, .ref mA, .ref mB, .ref mW, .ref mL, .int lS]))] := hD
                        try dsimp only at wr_193
                        try simp only [Int32.reduceToInt, Int64.reduceToInt] at wr_193
                        refine lv_iconst (v := 0) hx hb dX8_copies_269 (by decide) ?_
                        refine kIret (u := (u_r_193, dP, 0, iW, fH, fD, fI, j0, j1, j2, j3, s0, s1, s2, s3)) hx hb hr rfl hlocks hS dX8_copies_270 ?_ (hP.sub [5, 0, 1, 2, 3, 4] rfl) (hD.sub [5, 0, 1, 2, 3, 4] (by decide) rfl)
                        try dsimp only
                        try simp only [Int32.reduceToInt, Int64.reduceToInt, true_or, or_true, true_and, and_true]
                        try rw [← ex_176] at hk8
                        try rw [← ex_188] at hk8
                        repeat' apply And.intro
                        all_goals first | assumption | omega
                    · have t_234_189 := c_234_189
                      try simp only [kb_eq0, kb_ne0, lg_cmp_lt, lg_cmp_le, lg_cmp_gt, lg_cmp_ge, lg_cmp_eq] at t_234_189
                      try simp only [Int32.lt_iff_toInt_lt, Int32.le_iff_toInt_le, ← Int32.toInt_inj, Int64.lt_iff_toInt_lt, Int64.le_iff_toInt_le, ← Int64.toInt_inj, Int32.toInt_toInt64, Int32.reduceToInt, Int64.reduceToInt] at t_234_189
                      refine lv_aload_n hx hb dX8_copies_237 rfl (lv_at hl 4 rfl) ?_
                      refine lv_lload hx hb dX8_copies_238 (lv_at hl 0 rfl) ?_
                      refine kCallVd (wr := [(mI, .inl (cL, 1200, .inr (.inl fI))), (mJ, .inl (cI, 4, .inl (k4i j0 j1 j2 j3))), (mS, .inl (cI, 4, .inl (k4i s0 s1 s2 s3))), (mD, .inl (cL, 256, .inr (.inl fD)))]) (va_runV (As := [.long x_188]) (rest := []) ⟨hx, hb, hml, hown, hts⟩ (q_store l D cI cL cB cZ cT _ m0 mH mI mJ mS mD mX mA mB mW mL aM aC mM mQ oV pL lI sW dP sT aT 6 iW iH aE mN sZ tS tA tW lS fH x_188 (by omega)) (cwV 1 hts gX8_copies_X8_store rfl rfl rfl (by decide +kernel) ⟨Nat.le_of_ble_eq_true rfl, Nat.le_of_ble_eq_true rfl⟩) (kPreV hG hP hD [0, 1] rfl (by decide) 0 8 rfl rfl rfl) rfl rfl hl.1 rfl (lv_room (Nat.le_of_ble_eq_true rfl)) dX8_copies_240 ⟨Nat.le_of_ble_eq_true rfl, Nat.le_of_ble_eq_true rfl⟩) hA hP hD hS [0, 1] [2, 3, 4, 5] rfl rfl (by decide) (by decide) (fun _ u_r_194 H locs wr_194 hP hD hS => ?_)
                      have hP : va_P D vwCl [(mI, .inl (cL, 1200, .inr (.inl fI))), (mJ, .inl (cI, 4, .inl (k4i j0 j1 j2 j3))), (mS, .inl (cI, 4, .inl (k4i s0 s1 s2 s3))), (mD, .inl (cL, 256, .inr (.inl fD))), (m0, .inr (8, [.ref mH, .int aM, .long aC, .int mM, .long mQ, .int oV, .int pL, .int lI, .int sW, .int dP, .int sT, .long aT, .int 6, .int iW, .ref mI, .ref mJ, .ref mS, .ref mD, .int iH, .int aE, .int mN, .long sZ, .ref mX, .int tS, .int tA, .int tW, .ref mA, .ref mB, .ref mW, .ref mL, .int lS])), (mH, .inl (cI, 512, .inl u_r_194))] H := hP
                      have hD : va_D A [(mI, .inl (cL, 1200, .inr (.inl fI))), (mJ, .inl (cI, 4, .inl (k4i j0 j1 j2 j3))), (mS, .inl (cI, 4, .inl (k4i s0 s1 s2 s3))), (mD, .inl (cL, 256, .inr (.inl fD))), (m0, .inr (8, [.ref mH, .int aM, .long aC, .int mM, .long mQ, .int oV, .int pL, .int lI, .int sW, .int dP, .int sT, .long aT, .int 6, .int iW, .ref mI, .ref mJ, .ref mS, .ref mD, .int iH, .int aE, .int mN, .long sZ, .ref mX, .int tS, .int tA, .int tW, .ref mA, .ref mB, .ref mW, .ref mL, .int lS])), (mH, .inl (cI, 512, .inl u_r_194))] := hD
                      try dsimp only at wr_194
                      try simp only [Int32.reduceToInt, Int64.reduceToInt] at wr_194
                      refine lv_goto (tgt := 269) hx hb dX8_copies_243 (by decide) ?_
                      refine lv_iconst (v := 0) hx hb dX8_copies_269 (by decide) ?_
                      refine kIret (u := (pL, dP, 6, iW, u_r_194, fD, fI, j0, j1, j2, j3, s0, s1, s2, s3)) hx hb hr rfl hlocks hS dX8_copies_270 ?_ (hP.sub [4, 5, 0, 1, 2, 3] rfl) (hD.sub [4, 5, 0, 1, 2, 3] (by decide) rfl)
                      try dsimp only
                      try simp only [Int32.reduceToInt, Int64.reduceToInt, true_or, or_true, true_and, and_true]
                      try rw [← ex_176] at hk8
                      try rw [← ex_188] at hk8
                      repeat' apply And.intro
                      all_goals first | assumption | omega
                  · have t_209_188 := c_209_188
                    try simp only [kb_eq0, kb_ne0, lg_cmp_lt, lg_cmp_le, lg_cmp_gt, lg_cmp_ge, lg_cmp_eq] at t_209_188
                    try simp only [Int32.lt_iff_toInt_lt, Int32.le_iff_toInt_le, ← Int32.toInt_inj, Int64.lt_iff_toInt_lt, Int64.le_iff_toInt_le, ← Int64.toInt_inj, Int32.toInt_toInt64, Int32.reduceToInt, Int64.reduceToInt] at t_209_188
                    refine lv_aload_n hx hb dX8_copies_212 rfl (lv_at hl 4 rfl) ?_
                    refine va_get (D := D) (ci := 8) (v := .ref mS) (C := RX8) (T := TX8) (N := 31) hx hb hts iX8_copies_X8 hown hK hP 0 rfl rfl 16 (by decide) (hts (.fieldLink RX8 20 "TapeCalculatorModel" "stands" "[I") (List.mem_of_getElem? (i := 5) rfl)) (fun _ h9 => h9) rfl dX8_copies_213 ?_
                    refine lv_iload_n hx hb dX8_copies_216 rfl (lv_at hl 2 rfl) ?_
                    refine lv_dup2_11 hx hb dX8_copies_217 rfl rfl ?_
                    refine va_iald hx hb hK hP 4 0 rfl rfl (vp_in_iff.mpr (by decide)) dX8_copies_218 ?_
                    refine lv_topi (fun x_195 ex_195 => ?_)
                    obtain rfl : s1 = x_195 := ex_195.symm
                    refine lv_iload_n hx hb dX8_copies_219 rfl (lv_at hl 3 rfl) ?_
                    refine lv_if_eq (tgt := 227) hx hb dX8_copies_220 (by decide) (fun c_220_195 => ?_) (fun c_220_195 => ?_)
                    · exact absurd c_220_195 (by decide)
                    · have t_220_195 := c_220_195
                      try simp only [kb_eq0, kb_ne0, lg_cmp_lt, lg_cmp_le, lg_cmp_gt, lg_cmp_ge, lg_cmp_eq] at t_220_195
                      try simp only [Int32.lt_iff_toInt_lt, Int32.le_iff_toInt_le, ← Int32.toInt_inj, Int64.lt_iff_toInt_lt, Int64.le_iff_toInt_le, ← Int64.toInt_inj, Int32.toInt_toInt64, Int32.reduceToInt, Int64.reduceToInt] at t_220_195
                      refine lv_iconst (v := (-1)) hx hb dX8_copies_223 (by decide) ?_
                      refine lv_goto (tgt := 228) hx hb dX8_copies_224 (by decide) ?_
                      refine lv_iadd hx hb dX8_copies_228 ?_
                      refine va_iast hx hb hK hP hD hS 4 0 rfl rfl (vp_in_iff.mpr (by decide)) dX8_copies_229 (fun H locs hP hD hS => ?_)
                      rw [k4i_1] at hP hD
                      have hP : va_P D vwCl [(m0, .inr (8, [.ref mH, .int aM, .long aC, .int mM, .long mQ, .int oV, .int pL, .int lI, .int sW, .int dP, .int sT, .long aT, .int 6, .int iW, .ref mI, .ref mJ, .ref mS, .ref mD, .int iH, .int aE, .int mN, .long sZ, .ref mX, .int tS, .int tA, .int tW, .ref mA, .ref mB, .ref mW, .ref mL, .int lS])), (mH, .inl (cI, 512, .inl fH)), (mI, .inl (cL, 1200, .inr (.inl fI))), (mJ, .inl (cI, 4, .inl (k4i j0 j1 j2 j3))), (mS, .inl (cI, 4, .inl (k4i s0 (s1 + (-1)) s2 s3))), (mD, .inl (cL, 256, .inr (.inl fD)))] H := hP
                      have hD : va_D A [(m0, .inr (8, [.ref mH, .int aM, .long aC, .int mM, .long mQ, .int oV, .int pL, .int lI, .int sW, .int dP, .int sT, .long aT, .int 6, .int iW, .ref mI, .ref mJ, .ref mS, .ref mD, .int iH, .int aE, .int mN, .long sZ, .ref mX, .int tS, .int tA, .int tW, .ref mA, .ref mB, .ref mW, .ref mL, .int lS])), (mH, .inl (cI, 512, .inl fH)), (mI, .inl (cL, 1200, .inr (.inl fI))), (mJ, .inl (cI, 4, .inl (k4i j0 j1 j2 j3))), (mS, .inl (cI, 4, .inl (k4i s0 (s1 + (-1)) s2 s3))), (mD, .inl (cL, 256, .inr (.inl fD)))] := hD
                      refine lv_lload hx hb dX8_copies_230 (lv_at hl 0 rfl) ?_
                      refine lv_lconst (v := 0) hx hb dX8_copies_232 (by decide) ?_
                      refine W.lcmp hx hb dX8_copies_233 ?_
                      refine lv_if_lt (tgt := 246) hx hb dX8_copies_234 (by decide) (fun c_234_196 => ?_) (fun c_234_196 => ?_)
                      · have t_234_196 := c_234_196
                        try simp only [kb_eq0, kb_ne0, lg_cmp_lt, lg_cmp_le, lg_cmp_gt, lg_cmp_ge, lg_cmp_eq] at t_234_196
                        try simp only [Int32.lt_iff_toInt_lt, Int32.le_iff_toInt_le, ← Int32.toInt_inj, Int64.lt_iff_toInt_lt, Int64.le_iff_toInt_le, ← Int64.toInt_inj, Int32.toInt_toInt64, Int32.reduceToInt, Int64.reduceToInt] at t_234_196
                        refine lv_aload_n hx hb dX8_copies_246 rfl (lv_at hl 4 rfl) ?_
                        refine lv_iconst (v := 0) hx hb dX8_copies_247 (by decide) ?_
                        refine va_put (D := D) (ci := 8) (v := .int 0) (ty := .int) (C := RX8) (T := TX8) (N := 31) hx hb hts iX8_copies_X8 tyX8 tyX8_ok nmX8 hown hK hP hD hS 0 rfl rfl 12 (by decide) (hts (.fieldLink RX8 43 "TapeCalculatorModel" "chosen" "I") (List.mem_of_getElem? (i := 1) rfl)) (fun _ h9 => h9) rfl (by decide +kernel) rfl rfl (Nat.le_of_ble_eq_true rfl) dX8_copies_248 (fun H locs hP hD hS => ?_)
                        have hP : va_P D vwCl [(m0, .inr (8, [.ref mH, .int aM, .long aC, .int mM, .long mQ, .int oV, .int pL, .int lI, .int sW, .int dP, .int sT, .long aT, .int 0, .int iW, .ref mI, .ref mJ, .ref mS, .ref mD, .int iH, .int aE, .int mN, .long sZ, .ref mX, .int tS, .int tA, .int tW, .ref mA, .ref mB, .ref mW, .ref mL, .int lS])), (mH, .inl (cI, 512, .inl fH)), (mI, .inl (cL, 1200, .inr (.inl fI))), (mJ, .inl (cI, 4, .inl (k4i j0 j1 j2 j3))), (mS, .inl (cI, 4, .inl (k4i s0 (s1 + (-1)) s2 s3))), (mD, .inl (cL, 256, .inr (.inl fD)))] H := hP
                        have hD : va_D A [(m0, .inr (8, [.ref mH, .int aM, .long aC, .int mM, .long mQ, .int oV, .int pL, .int lI, .int sW, .int dP, .int sT, .long aT, .int 0, .int iW, .ref mI, .ref mJ, .ref mS, .ref mD, .int iH, .int aE, .int mN, .long sZ, .ref mX, .int tS, .int tA, .int tW, .ref mA, .ref mB, .ref mW, .ref mL, .int lS])), (mH, .inl (cI, 512, .inl fH)), (mI, .inl (cL, 1200, .inr (.inl fI))), (mJ, .inl (cI, 4, .inl (k4i j0 j1 j2 j3))), (mS, .inl (cI, 4, .inl (k4i s0 (s1 + (-1)) s2 s3))), (mD, .inl (cL, 256, .inr (.inl fD)))] := hD
                        refine lv_aload_n hx hb dX8_copies_251 rfl (lv_at hl 4 rfl) ?_
                        refine lv_lload hx hb dX8_copies_252 (lv_at hl 0 rfl) ?_
                        refine lv_ldc2 (v := (-2)) hx hb hown (hts (.constantLong RX8 111 (-2)) (List.mem_of_getElem? (i := 9) rfl)) dX8_copies_254 ?_
                        refine W.lcmp hx hb dX8_copies_257 ?_
                        refine lv_if_ne (tgt := 265) hx hb dX8_copies_258 (by decide) (fun c_258_197 => ?_) (fun c_258_197 => ?_)
                        · have t_258_197 := c_258_197
                          try simp only [kb_eq0, kb_ne0, lg_cmp_lt, lg_cmp_le, lg_cmp_gt, lg_cmp_ge, lg_cmp_eq] at t_258_197
                          try simp only [Int32.lt_iff_toInt_lt, Int32.le_iff_toInt_le, ← Int32.toInt_inj, Int64.lt_iff_toInt_lt, Int64.le_iff_toInt_le, ← Int64.toInt_inj, Int32.toInt_toInt64, Int32.reduceToInt, Int64.reduceToInt] at t_258_197
                          refine lv_iconst (v := 1) hx hb dX8_copies_265 (by decide) ?_
                          refine kCallVd (wr := [(mH, .inl (cI, 512, .inl fH)), (mI, .inl (cL, 1200, .inr (.inl fI))), (mJ, .inl (cI, 4, .inl (k4i j0 j1 j2 j3))), (mS, .inl (cI, 4, .inl (k4i s0 (s1 + (-1)) s2 s3))), (mD, .inl (cL, 256, .inr (.inl fD)))]) (va_runV (As := [.int 1]) (rest := []) ⟨hx, hb, hml, hown, hts⟩ (q_go l D cI cL cB cZ cT _ m0 mH mI mJ mS mD mX mA mB mW mL aM aC mM mQ oV pL lI sW dP sT aT 0 iW iH aE mN sZ tS tA tW lS 1) (cwV 1 hts gX8_copies_X8_go rfl rfl rfl (by decide +kernel) ⟨Nat.le_of_ble_eq_true rfl, Nat.le_of_ble_eq_true rfl⟩) (kPreV hG hP hD [0] rfl (by decide) 0 8 rfl rfl rfl) rfl rfl hl.1 rfl (lv_room (Nat.le_of_ble_eq_true rfl)) dX8_copies_266 ⟨Nat.le_of_ble_eq_true rfl, Nat.le_of_ble_eq_true rfl⟩) hA hP hD hS [0] [1, 2, 3, 4, 5] rfl rfl (by decide) (by decide) (fun _ u_r_199 H locs wr_199 hP hD hS => ?_)
                          have hP : va_P D vwCl [(mH, .inl (cI, 512, .inl fH)), (mI, .inl (cL, 1200, .inr (.inl fI))), (mJ, .inl (cI, 4, .inl (k4i j0 j1 j2 j3))), (mS, .inl (cI, 4, .inl (k4i s0 (s1 + (-1)) s2 s3))), (mD, .inl (cL, 256, .inr (.inl fD))), (m0, .inr (8, [.ref mH, .int aM, .long aC, .int mM, .long mQ, .int oV, .int u_r_199, .int lI, .int sW, .int dP, .int sT, .long aT, .int 0, .int iW, .ref mI, .ref mJ, .ref mS, .ref mD, .int iH, .int aE, .int mN, .long sZ, .ref mX, .int tS, .int tA, .int tW, .ref mA, .ref mB, .ref mW, .ref mL, .int lS]))] H := hP
                          have hD : va_D A [(mH, .inl (cI, 512, .inl fH)), (mI, .inl (cL, 1200, .inr (.inl fI))), (mJ, .inl (cI, 4, .inl (k4i j0 j1 j2 j3))), (mS, .inl (cI, 4, .inl (k4i s0 (s1 + (-1)) s2 s3))), (mD, .inl (cL, 256, .inr (.inl fD))), (m0, .inr (8, [.ref mH, .int aM, .long aC, .int mM, .long mQ, .int oV, .int u_r_199, .int lI, .int sW, .int dP, .int sT, .long aT, .int 0, .int iW, .ref mI, .ref mJ, .ref mS, .ref mD, .int iH, .int aE, .int mN, .long sZ, .ref mX, .int tS, .int tA, .int tW, .ref mA, .ref mB, .ref mW, .ref mL, .int lS]))] := hD
                          try dsimp only at wr_199
                          try simp only [Int32.reduceToInt, Int64.reduceToInt] at wr_199
                          refine lv_iconst (v := 0) hx hb dX8_copies_269 (by decide) ?_
                          refine kIret (u := (u_r_199, dP, 0, iW, fH, fD, fI, j0, j1, j2, j3, s0, (s1 + (-1)), s2, s3)) hx hb hr rfl hlocks hS dX8_copies_270 ?_ (hP.sub [5, 0, 1, 2, 3, 4] rfl) (hD.sub [5, 0, 1, 2, 3, 4] (by decide) rfl)
                          try dsimp only
                          try simp only [Int32.reduceToInt, Int64.reduceToInt, true_or, or_true, true_and, and_true]
                          try rw [← ex_176] at hk8
                          try rw [← ex_188] at hk8
                          repeat' apply And.intro
                          all_goals first | assumption | omega
                        · have t_258_197 := c_258_197
                          try simp only [kb_eq0, kb_ne0, lg_cmp_lt, lg_cmp_le, lg_cmp_gt, lg_cmp_ge, lg_cmp_eq] at t_258_197
                          try simp only [Int32.lt_iff_toInt_lt, Int32.le_iff_toInt_le, ← Int32.toInt_inj, Int64.lt_iff_toInt_lt, Int64.le_iff_toInt_le, ← Int64.toInt_inj, Int32.toInt_toInt64, Int32.reduceToInt, Int64.reduceToInt] at t_258_197
                          refine lv_iconst (v := 2) hx hb dX8_copies_261 (by decide) ?_
                          refine lv_goto (tgt := 266) hx hb dX8_copies_262 (by decide) ?_
                          refine kCallVd (wr := [(mH, .inl (cI, 512, .inl fH)), (mI, .inl (cL, 1200, .inr (.inl fI))), (mJ, .inl (cI, 4, .inl (k4i j0 j1 j2 j3))), (mS, .inl (cI, 4, .inl (k4i s0 (s1 + (-1)) s2 s3))), (mD, .inl (cL, 256, .inr (.inl fD)))]) (va_runV (As := [.int 2]) (rest := []) ⟨hx, hb, hml, hown, hts⟩ (q_go l D cI cL cB cZ cT _ m0 mH mI mJ mS mD mX mA mB mW mL aM aC mM mQ oV pL lI sW dP sT aT 0 iW iH aE mN sZ tS tA tW lS 2) (cwV 1 hts gX8_copies_X8_go rfl rfl rfl (by decide +kernel) ⟨Nat.le_of_ble_eq_true rfl, Nat.le_of_ble_eq_true rfl⟩) (kPreV hG hP hD [0] rfl (by decide) 0 8 rfl rfl rfl) rfl rfl hl.1 rfl (lv_room (Nat.le_of_ble_eq_true rfl)) dX8_copies_266 ⟨Nat.le_of_ble_eq_true rfl, Nat.le_of_ble_eq_true rfl⟩) hA hP hD hS [0] [1, 2, 3, 4, 5] rfl rfl (by decide) (by decide) (fun _ u_r_200 H locs wr_200 hP hD hS => ?_)
                          have hP : va_P D vwCl [(mH, .inl (cI, 512, .inl fH)), (mI, .inl (cL, 1200, .inr (.inl fI))), (mJ, .inl (cI, 4, .inl (k4i j0 j1 j2 j3))), (mS, .inl (cI, 4, .inl (k4i s0 (s1 + (-1)) s2 s3))), (mD, .inl (cL, 256, .inr (.inl fD))), (m0, .inr (8, [.ref mH, .int aM, .long aC, .int mM, .long mQ, .int oV, .int u_r_200, .int lI, .int sW, .int dP, .int sT, .long aT, .int 0, .int iW, .ref mI, .ref mJ, .ref mS, .ref mD, .int iH, .int aE, .int mN, .long sZ, .ref mX, .int tS, .int tA, .int tW, .ref mA, .ref mB, .ref mW, .ref mL, .int lS]))] H := hP
                          have hD : va_D A [(mH, .inl (cI, 512, .inl fH)), (mI, .inl (cL, 1200, .inr (.inl fI))), (mJ, .inl (cI, 4, .inl (k4i j0 j1 j2 j3))), (mS, .inl (cI, 4, .inl (k4i s0 (s1 + (-1)) s2 s3))), (mD, .inl (cL, 256, .inr (.inl fD))), (m0, .inr (8, [.ref mH, .int aM, .long aC, .int mM, .long mQ, .int oV, .int u_r_200, .int lI, .int sW, .int dP, .int sT, .long aT, .int 0, .int iW, .ref mI, .ref mJ, .ref mS, .ref mD, .int iH, .int aE, .int mN, .long sZ, .ref mX, .int tS, .int tA, .int tW, .ref mA, .ref mB, .ref mW, .ref mL, .int lS]))] := hD
                          try dsimp only at wr_200
                          try simp only [Int32.reduceToInt, Int64.reduceToInt] at wr_200
                          refine lv_iconst (v := 0) hx hb dX8_copies_269 (by decide) ?_
                          refine kIret (u := (u_r_200, dP, 0, iW, fH, fD, fI, j0, j1, j2, j3, s0, (s1 + (-1)), s2, s3)) hx hb hr rfl hlocks hS dX8_copies_270 ?_ (hP.sub [5, 0, 1, 2, 3, 4] rfl) (hD.sub [5, 0, 1, 2, 3, 4] (by decide) rfl)
                          try dsimp only
                          try simp only [Int32.reduceToInt, Int64.reduceToInt, true_or, or_true, true_and, and_true]
                          try rw [← ex_176] at hk8
                          try rw [← ex_188] at hk8
                          repeat' apply And.intro
                          all_goals first | assumption | omega
                      · have t_234_196 := c_234_196
                        try simp only [kb_eq0, kb_ne0, lg_cmp_lt, lg_cmp_le, lg_cmp_gt, lg_cmp_ge, lg_cmp_eq] at t_234_196
                        try simp only [Int32.lt_iff_toInt_lt, Int32.le_iff_toInt_le, ← Int32.toInt_inj, Int64.lt_iff_toInt_lt, Int64.le_iff_toInt_le, ← Int64.toInt_inj, Int32.toInt_toInt64, Int32.reduceToInt, Int64.reduceToInt] at t_234_196
                        refine lv_aload_n hx hb dX8_copies_237 rfl (lv_at hl 4 rfl) ?_
                        refine lv_lload hx hb dX8_copies_238 (lv_at hl 0 rfl) ?_
                        refine kCallVd (wr := [(mI, .inl (cL, 1200, .inr (.inl fI))), (mJ, .inl (cI, 4, .inl (k4i j0 j1 j2 j3))), (mS, .inl (cI, 4, .inl (k4i s0 (s1 + (-1)) s2 s3))), (mD, .inl (cL, 256, .inr (.inl fD)))]) (va_runV (As := [.long x_188]) (rest := []) ⟨hx, hb, hml, hown, hts⟩ (q_store l D cI cL cB cZ cT _ m0 mH mI mJ mS mD mX mA mB mW mL aM aC mM mQ oV pL lI sW dP sT aT 6 iW iH aE mN sZ tS tA tW lS fH x_188 (by omega)) (cwV 1 hts gX8_copies_X8_store rfl rfl rfl (by decide +kernel) ⟨Nat.le_of_ble_eq_true rfl, Nat.le_of_ble_eq_true rfl⟩) (kPreV hG hP hD [0, 1] rfl (by decide) 0 8 rfl rfl rfl) rfl rfl hl.1 rfl (lv_room (Nat.le_of_ble_eq_true rfl)) dX8_copies_240 ⟨Nat.le_of_ble_eq_true rfl, Nat.le_of_ble_eq_true rfl⟩) hA hP hD hS [0, 1] [2, 3, 4, 5] rfl rfl (by decide) (by decide) (fun _ u_r_201 H locs wr_201 hP hD hS => ?_)
                        have hP : va_P D vwCl [(mI, .inl (cL, 1200, .inr (.inl fI))), (mJ, .inl (cI, 4, .inl (k4i j0 j1 j2 j3))), (mS, .inl (cI, 4, .inl (k4i s0 (s1 + (-1)) s2 s3))), (mD, .inl (cL, 256, .inr (.inl fD))), (m0, .inr (8, [.ref mH, .int aM, .long aC, .int mM, .long mQ, .int oV, .int pL, .int lI, .int sW, .int dP, .int sT, .long aT, .int 6, .int iW, .ref mI, .ref mJ, .ref mS, .ref mD, .int iH, .int aE, .int mN, .long sZ, .ref mX, .int tS, .int tA, .int tW, .ref mA, .ref mB, .ref mW, .ref mL, .int lS])), (mH, .inl (cI, 512, .inl u_r_201))] H := hP
                        have hD : va_D A [(mI, .inl (cL, 1200, .inr (.inl fI))), (mJ, .inl (cI, 4, .inl (k4i j0 j1 j2 j3))), (mS, .inl (cI, 4, .inl (k4i s0 (s1 + (-1)) s2 s3))), (mD, .inl (cL, 256, .inr (.inl fD))), (m0, .inr (8, [.ref mH, .int aM, .long aC, .int mM, .long mQ, .int oV, .int pL, .int lI, .int sW, .int dP, .int sT, .long aT, .int 6, .int iW, .ref mI, .ref mJ, .ref mS, .ref mD, .int iH, .int aE, .int mN, .long sZ, .ref mX, .int tS, .int tA, .int tW, .ref mA, .ref mB, .ref mW, .ref mL, .int lS])), (mH, .inl (cI, 512, .inl u_r_201))] := hD
                        try dsimp only at wr_201
                        try simp only [Int32.reduceToInt, Int64.reduceToInt] at wr_201
                        refine lv_goto (tgt := 269) hx hb dX8_copies_243 (by decide) ?_
                        refine lv_iconst (v := 0) hx hb dX8_copies_269 (by decide) ?_
                        refine kIret (u := (pL, dP, 6, iW, u_r_201, fD, fI, j0, j1, j2, j3, s0, (s1 + (-1)), s2, s3)) hx hb hr rfl hlocks hS dX8_copies_270 ?_ (hP.sub [4, 5, 0, 1, 2, 3] rfl) (hD.sub [4, 5, 0, 1, 2, 3] (by decide) rfl)
                        try dsimp only
                        try simp only [Int32.reduceToInt, Int64.reduceToInt, true_or, or_true, true_and, and_true]
                        try rw [← ex_176] at hk8
                        try rw [← ex_188] at hk8
                        repeat' apply And.intro
                        all_goals first | assumption | omega
        · exact absurd (by decide) c_79_169
      · exact absurd (by decide) c_16_168
    · exact absurd c_4_167 (by decide)
  · have hk8 := k_and (x := dP + 1) (m := 255) 8 (by decide) (by decide)
    have hs0 := k_sub (a := j2) (b := 1) (by omega) (by decide)
    simp only [Int32.reduceToInt] at hs0
    have hs1 := k_sub (a := s2) (b := 1) (by omega) (by decide)
    simp only [Int32.reduceToInt] at hs1
    have hs2 := k_addg (a := s2) (b := 1) (by omega) (by decide)
    have hs3 := k_addg (a := s2) (b := (-1)) (by omega) (by decide)
    simp only [Int32.reduceToInt, show (-1 : Int32).toInt = -1 from rfl] at hs2 hs3
    refine lv_aload_n hx hb dX8_copies_0 rfl (lv_at hl 0 rfl) ?_
    refine va_get (D := D) (ci := 8) (v := .int 7) (C := RX8) (T := TX8) (N := 31) hx hb hts iX8_copies_X8 hown hK hP 0 rfl rfl 12 (by decide) (hts (.fieldLink RX8 43 "TapeCalculatorModel" "chosen" "I") (List.mem_of_getElem? (i := 1) rfl)) (fun _ h9 => h9) rfl dX8_copies_1 ?_
    refine lv_if_ne (tgt := 10) hx hb dX8_copies_4 (by decide) (fun c_4_201 => ?_) (fun c_4_201 => ?_)
    · have t_4_201 := c_4_201
      try simp only [kb_eq0, kb_ne0, lg_cmp_lt, lg_cmp_le, lg_cmp_gt, lg_cmp_ge, lg_cmp_eq] at t_4_201
      try simp only [Int32.lt_iff_toInt_lt, Int32.le_iff_toInt_le, ← Int32.toInt_inj, Int64.lt_iff_toInt_lt, Int64.le_iff_toInt_le, ← Int64.toInt_inj, Int32.toInt_toInt64, Int32.reduceToInt, Int64.reduceToInt] at t_4_201
      refine lv_aload_n hx hb dX8_copies_10 rfl (lv_at hl 0 rfl) ?_
      refine va_get (D := D) (ci := 8) (v := .int 7) (C := RX8) (T := TX8) (N := 31) hx hb hts iX8_copies_X8 hown hK hP 0 rfl rfl 12 (by decide) (hts (.fieldLink RX8 43 "TapeCalculatorModel" "chosen" "I") (List.mem_of_getElem? (i := 1) rfl)) (fun _ h9 => h9) rfl dX8_copies_11 ?_
      refine lv_bipush (v := 12) hx hb dX8_copies_14 (by decide) ?_
      refine lv_icmp_le (tgt := 73) hx hb dX8_copies_16 (by decide) (fun c_16_202 => ?_) (fun c_16_202 => ?_)
      · have t_16_202 := c_16_202
        try simp only [kb_eq0, kb_ne0, lg_cmp_lt, lg_cmp_le, lg_cmp_gt, lg_cmp_ge, lg_cmp_eq] at t_16_202
        try simp only [Int32.lt_iff_toInt_lt, Int32.le_iff_toInt_le, ← Int32.toInt_inj, Int64.lt_iff_toInt_lt, Int64.le_iff_toInt_le, ← Int64.toInt_inj, Int32.toInt_toInt64, Int32.reduceToInt, Int64.reduceToInt] at t_16_202
        refine lv_aload_n hx hb dX8_copies_73 rfl (lv_at hl 0 rfl) ?_
        refine va_get (D := D) (ci := 8) (v := .int 7) (C := RX8) (T := TX8) (N := 31) hx hb hts iX8_copies_X8 hown hK hP 0 rfl rfl 12 (by decide) (hts (.fieldLink RX8 43 "TapeCalculatorModel" "chosen" "I") (List.mem_of_getElem? (i := 1) rfl)) (fun _ h9 => h9) rfl dX8_copies_74 ?_
        refine lv_bipush (v := 8) hx hb dX8_copies_77 (by decide) ?_
        refine lv_icmp_le (tgt := 109) hx hb dX8_copies_79 (by decide) (fun c_79_203 => ?_) (fun c_79_203 => ?_)
        · have t_79_203 := c_79_203
          try simp only [kb_eq0, kb_ne0, lg_cmp_lt, lg_cmp_le, lg_cmp_gt, lg_cmp_ge, lg_cmp_eq] at t_79_203
          try simp only [Int32.lt_iff_toInt_lt, Int32.le_iff_toInt_le, ← Int32.toInt_inj, Int64.lt_iff_toInt_lt, Int64.le_iff_toInt_le, ← Int64.toInt_inj, Int32.toInt_toInt64, Int32.reduceToInt, Int64.reduceToInt] at t_79_203
          refine lv_aload_n hx hb dX8_copies_109 rfl (lv_at hl 0 rfl) ?_
          refine va_get (D := D) (ci := 8) (v := .int 7) (C := RX8) (T := TX8) (N := 31) hx hb hts iX8_copies_X8 hown hK hP 0 rfl rfl 12 (by decide) (hts (.fieldLink RX8 43 "TapeCalculatorModel" "chosen" "I") (List.mem_of_getElem? (i := 1) rfl)) (fun _ h9 => h9) rfl dX8_copies_110 ?_
          refine lv_iconst (v := 4) hx hb dX8_copies_113 (by decide) ?_
          refine lv_icmp_le (tgt := 121) hx hb dX8_copies_114 (by decide) (fun c_114_204 => ?_) (fun c_114_204 => ?_)
          · exact absurd c_114_204 (by decide)
          · have t_114_204 := c_114_204
            try simp only [kb_eq0, kb_ne0, lg_cmp_lt, lg_cmp_le, lg_cmp_gt, lg_cmp_ge, lg_cmp_eq] at t_114_204
            try simp only [Int32.lt_iff_toInt_lt, Int32.le_iff_toInt_le, ← Int32.toInt_inj, Int64.lt_iff_toInt_lt, Int64.le_iff_toInt_le, ← Int64.toInt_inj, Int32.toInt_toInt64, Int32.reduceToInt, Int64.reduceToInt] at t_114_204
            refine lv_iconst (v := 1) hx hb dX8_copies_117 (by decide) ?_
            refine lv_goto (tgt := 122) hx hb dX8_copies_118 (by decide) ?_
            refine lv_istore_n (lv' := [(1, .int 1), (0, .ref m0)]) hx hb dX8_copies_122 rfl hl (by decide) rfl (fun ls hl => ?_)
            refine lv_iload_n hx hb dX8_copies_123 rfl (lv_at hl 0 rfl) ?_
            refine lv_if_eq (tgt := 136) hx hb dX8_copies_124 (by decide) (fun c_124_205 => ?_) (fun c_124_205 => ?_)
            · exact absurd c_124_205 (by decide)
            · have t_124_205 := c_124_205
              try simp only [kb_eq0, kb_ne0, lg_cmp_lt, lg_cmp_le, lg_cmp_gt, lg_cmp_ge, lg_cmp_eq] at t_124_205
              try simp only [Int32.lt_iff_toInt_lt, Int32.le_iff_toInt_le, ← Int32.toInt_inj, Int64.lt_iff_toInt_lt, Int64.le_iff_toInt_le, ← Int64.toInt_inj, Int32.toInt_toInt64, Int32.reduceToInt, Int64.reduceToInt] at t_124_205
              refine lv_aload_n hx hb dX8_copies_127 rfl (lv_at hl 1 rfl) ?_
              refine va_get (D := D) (ci := 8) (v := .int 7) (C := RX8) (T := TX8) (N := 31) hx hb hts iX8_copies_X8 hown hK hP 0 rfl rfl 12 (by decide) (hts (.fieldLink RX8 43 "TapeCalculatorModel" "chosen" "I") (List.mem_of_getElem? (i := 1) rfl)) (fun _ h9 => h9) rfl dX8_copies_128 ?_
              refine lv_iconst (v := 5) hx hb dX8_copies_131 (by decide) ?_
              refine lv_isub hx hb dX8_copies_132 ?_
              refine lv_topi (fun x_207 ex_207 => ?_)
              obtain rfl : x_207 = 2 := ex_207.trans (by decide)
              refine lv_goto (tgt := 142) hx hb dX8_copies_133 (by decide) ?_
              refine lv_istore_n (lv' := [(2, .int 2), (1, .int 1), (0, .ref m0)]) hx hb dX8_copies_142 rfl hl (by decide) rfl (fun ls hl => ?_)
              refine lv_iload_n hx hb dX8_copies_143 rfl (lv_at hl 1 rfl) ?_
              refine lv_if_eq (tgt := 158) hx hb dX8_copies_144 (by decide) (fun c_144_207 => ?_) (fun c_144_207 => ?_)
              · exact absurd c_144_207 (by decide)
              · have t_144_207 := c_144_207
                try simp only [kb_eq0, kb_ne0, lg_cmp_lt, lg_cmp_le, lg_cmp_gt, lg_cmp_ge, lg_cmp_eq] at t_144_207
                try simp only [Int32.lt_iff_toInt_lt, Int32.le_iff_toInt_le, ← Int32.toInt_inj, Int64.lt_iff_toInt_lt, Int64.le_iff_toInt_le, ← Int64.toInt_inj, Int32.toInt_toInt64, Int32.reduceToInt, Int64.reduceToInt] at t_144_207
                refine lv_aload_n hx hb dX8_copies_147 rfl (lv_at hl 2 rfl) ?_
                refine va_get (D := D) (ci := 8) (v := .ref mS) (C := RX8) (T := TX8) (N := 31) hx hb hts iX8_copies_X8 hown hK hP 0 rfl rfl 16 (by decide) (hts (.fieldLink RX8 20 "TapeCalculatorModel" "stands" "[I") (List.mem_of_getElem? (i := 5) rfl)) (fun _ h9 => h9) rfl dX8_copies_148 ?_
                refine lv_iload_n hx hb dX8_copies_151 rfl (lv_at hl 0 rfl) ?_
                refine va_iald hx hb hK hP 4 0 rfl rfl (vp_in_iff.mpr (by decide)) dX8_copies_152 ?_
                refine lv_topi (fun x_209 ex_209 => ?_)
                obtain rfl : s2 = x_209 := ex_209.symm
                refine lv_iconst (v := 1) hx hb dX8_copies_153 (by decide) ?_
                refine lv_isub hx hb dX8_copies_154 ?_
                refine lv_goto (tgt := 164) hx hb dX8_copies_155 (by decide) ?_
                refine lv_topi (fun x_210 ex_210 => ?_)
                refine lv_istore_n (lv' := [(3, .int x_210), (2, .int 2), (1, .int 1), (0, .ref m0)]) hx hb dX8_copies_164 rfl hl (by decide) rfl (fun ls hl => ?_)
                rw [← ex_210] at hs1
                refine lv_iload_n hx hb dX8_copies_165 rfl (lv_at hl 0 rfl) ?_
                refine lv_i2l hx hb dX8_copies_166 rfl ?_
                refine lv_lconst (v := 0) hx hb dX8_copies_167 (by decide) ?_
                refine lv_aload_n hx hb dX8_copies_168 rfl (lv_at hl 3 rfl) ?_
                refine va_get (D := D) (ci := 8) (v := .ref mJ) (C := RX8) (T := TX8) (N := 31) hx hb hts iX8_copies_X8 hown hK hP 0 rfl rfl 15 (by decide) (hts (.fieldLink RX8 17 "TapeCalculatorModel" "items" "[I") (List.mem_of_getElem? (i := 6) rfl)) (fun _ h9 => h9) rfl dX8_copies_169 ?_
                refine lv_iload_n hx hb dX8_copies_172 rfl (lv_at hl 1 rfl) ?_
                refine va_iald hx hb hK hP 3 0 rfl rfl (vp_in_iff.mpr (by decide)) dX8_copies_173 ?_
                refine lv_topi (fun x_211 ex_211 => ?_)
                obtain rfl : j2 = x_211 := ex_211.symm
                refine lv_iconst (v := 1) hx hb dX8_copies_174 (by decide) ?_
                refine lv_isub hx hb dX8_copies_175 ?_
                refine lv_i2l hx hb dX8_copies_176 rfl ?_
                refine kCallI (wr := [(m0, .inr (8, [.ref mH, .int aM, .long aC, .int mM, .long mQ, .int oV, .int pL, .int lI, .int sW, .int dP, .int sT, .long aT, .int 7, .int iW, .ref mI, .ref mJ, .ref mS, .ref mD, .int iH, .int aE, .int mN, .long sZ, .ref mX, .int tS, .int tA, .int tW, .ref mA, .ref mB, .ref mW, .ref mL, .int lS])), (mH, .inl (cI, 512, .inl fH)), (mI, .inl (cL, 1200, .inr (.inl fI))), (mJ, .inl (cI, 4, .inl (k4i j0 j1 j2 j3))), (mS, .inl (cI, 4, .inl (k4i s0 s1 s2 s3))), (mD, .inl (cL, 256, .inr (.inl fD)))]) (va_runS (As := [.long x_210.toInt64, .long 0, .long (j2 - 1).toInt64]) (rest := []) ⟨hx, hb, hml, hown, hts⟩ (q_in l D cI cL cB cZ cT _ (x_210.toInt64) 0 (j2 - 1).toInt64) (va_cwS 3 hts gX8_copies_X8_in rfl rfl rfl (by decide +kernel) ⟨Nat.le_of_ble_eq_true rfl, Nat.le_of_ble_eq_true rfl⟩) (kPreS hG hP hD [] rfl (by decide)) rfl rfl hl.1 rfl (lv_room (Nat.le_of_ble_eq_true rfl)) dX8_copies_177 ⟨Nat.le_of_ble_eq_true rfl, Nat.le_of_ble_eq_true rfl⟩) hA hP hD hS [] [0, 1, 2, 3, 4, 5] rfl rfl (by decide) (by decide) (fun r_212 u_r_212 H locs wr_212 hP hD hS => ?_)
                have hP : va_P D vwCl [(m0, .inr (8, [.ref mH, .int aM, .long aC, .int mM, .long mQ, .int oV, .int pL, .int lI, .int sW, .int dP, .int sT, .long aT, .int 7, .int iW, .ref mI, .ref mJ, .ref mS, .ref mD, .int iH, .int aE, .int mN, .long sZ, .ref mX, .int tS, .int tA, .int tW, .ref mA, .ref mB, .ref mW, .ref mL, .int lS])), (mH, .inl (cI, 512, .inl fH)), (mI, .inl (cL, 1200, .inr (.inl fI))), (mJ, .inl (cI, 4, .inl (k4i j0 j1 j2 j3))), (mS, .inl (cI, 4, .inl (k4i s0 s1 s2 s3))), (mD, .inl (cL, 256, .inr (.inl fD)))] H := hP
                have hD : va_D A [(m0, .inr (8, [.ref mH, .int aM, .long aC, .int mM, .long mQ, .int oV, .int pL, .int lI, .int sW, .int dP, .int sT, .long aT, .int 7, .int iW, .ref mI, .ref mJ, .ref mS, .ref mD, .int iH, .int aE, .int mN, .long sZ, .ref mX, .int tS, .int tA, .int tW, .ref mA, .ref mB, .ref mW, .ref mL, .int lS])), (mH, .inl (cI, 512, .inl fH)), (mI, .inl (cL, 1200, .inr (.inl fI))), (mJ, .inl (cI, 4, .inl (k4i j0 j1 j2 j3))), (mS, .inl (cI, 4, .inl (k4i s0 s1 s2 s3))), (mD, .inl (cL, 256, .inr (.inl fD)))] := hD
                try dsimp only at wr_212
                subst wr_212
                refine lv_if_eq (tgt := 198) hx hb dX8_copies_180 (by decide) (fun c_180_212 => ?_) (fun c_180_212 => ?_)
                · have t_180_212 := c_180_212
                  try simp only [kb_eq0, kb_ne0, lg_cmp_lt, lg_cmp_le, lg_cmp_gt, lg_cmp_ge, lg_cmp_eq] at t_180_212
                  try simp only [Int32.lt_iff_toInt_lt, Int32.le_iff_toInt_le, ← Int32.toInt_inj, Int64.lt_iff_toInt_lt, Int64.le_iff_toInt_le, ← Int64.toInt_inj, Int32.toInt_toInt64, Int32.reduceToInt, Int64.reduceToInt] at t_180_212
                  refine lv_ldc2 (v := (-9)) hx hb hown (hts (.constantLong RX8 107 (-9)) (List.mem_of_getElem? (i := 8) rfl)) dX8_copies_198 ?_
                  refine lv_lstore (lv' := [(4, .long (-9)), (3, .int x_210), (2, .int 2), (1, .int 1), (0, .ref m0)]) hx hb dX8_copies_201 hl (by decide) rfl (fun ls hl => ?_)
                  refine lv_lload hx hb dX8_copies_203 (lv_at hl 0 rfl) ?_
                  refine lv_ldc2 (v := (-9)) hx hb hown (hts (.constantLong RX8 107 (-9)) (List.mem_of_getElem? (i := 8) rfl)) dX8_copies_205 ?_
                  refine W.lcmp hx hb dX8_copies_208 ?_
                  refine lv_topi (fun x_214 ex_214 => ?_)
                  obtain rfl : x_214 = 0 := ex_214.trans (by decide)
                  refine lv_if_eq (tgt := 230) hx hb dX8_copies_209 (by decide) (fun c_209_214 => ?_) (fun c_209_214 => ?_)
                  · have t_209_214 := c_209_214
                    try simp only [kb_eq0, kb_ne0, lg_cmp_lt, lg_cmp_le, lg_cmp_gt, lg_cmp_ge, lg_cmp_eq] at t_209_214
                    try simp only [Int32.lt_iff_toInt_lt, Int32.le_iff_toInt_le, ← Int32.toInt_inj, Int64.lt_iff_toInt_lt, Int64.le_iff_toInt_le, ← Int64.toInt_inj, Int32.toInt_toInt64, Int32.reduceToInt, Int64.reduceToInt] at t_209_214
                    refine lv_lload hx hb dX8_copies_230 (lv_at hl 0 rfl) ?_
                    refine lv_lconst (v := 0) hx hb dX8_copies_232 (by decide) ?_
                    refine W.lcmp hx hb dX8_copies_233 ?_
                    refine lv_topi (fun x_216 ex_216 => ?_)
                    obtain rfl : x_216 = (-1) := ex_216.trans (by decide)
                    refine lv_if_lt (tgt := 246) hx hb dX8_copies_234 (by decide) (fun c_234_216 => ?_) (fun c_234_216 => ?_)
                    · have t_234_216 := c_234_216
                      try simp only [kb_eq0, kb_ne0, lg_cmp_lt, lg_cmp_le, lg_cmp_gt, lg_cmp_ge, lg_cmp_eq] at t_234_216
                      try simp only [Int32.lt_iff_toInt_lt, Int32.le_iff_toInt_le, ← Int32.toInt_inj, Int64.lt_iff_toInt_lt, Int64.le_iff_toInt_le, ← Int64.toInt_inj, Int32.toInt_toInt64, Int32.reduceToInt, Int64.reduceToInt] at t_234_216
                      refine lv_aload_n hx hb dX8_copies_246 rfl (lv_at hl 4 rfl) ?_
                      refine lv_iconst (v := 0) hx hb dX8_copies_247 (by decide) ?_
                      refine va_put (D := D) (ci := 8) (v := .int 0) (ty := .int) (C := RX8) (T := TX8) (N := 31) hx hb hts iX8_copies_X8 tyX8 tyX8_ok nmX8 hown hK hP hD hS 0 rfl rfl 12 (by decide) (hts (.fieldLink RX8 43 "TapeCalculatorModel" "chosen" "I") (List.mem_of_getElem? (i := 1) rfl)) (fun _ h9 => h9) rfl (by decide +kernel) rfl rfl (Nat.le_of_ble_eq_true rfl) dX8_copies_248 (fun H locs hP hD hS => ?_)
                      have hP : va_P D vwCl [(m0, .inr (8, [.ref mH, .int aM, .long aC, .int mM, .long mQ, .int oV, .int pL, .int lI, .int sW, .int dP, .int sT, .long aT, .int 0, .int iW, .ref mI, .ref mJ, .ref mS, .ref mD, .int iH, .int aE, .int mN, .long sZ, .ref mX, .int tS, .int tA, .int tW, .ref mA, .ref mB, .ref mW, .ref mL, .int lS])), (mH, .inl (cI, 512, .inl fH)), (mI, .inl (cL, 1200, .inr (.inl fI))), (mJ, .inl (cI, 4, .inl (k4i j0 j1 j2 j3))), (mS, .inl (cI, 4, .inl (k4i s0 s1 s2 s3))), (mD, .inl (cL, 256, .inr (.inl fD)))] H := hP
                      have hD : va_D A [(m0, .inr (8, [.ref mH, .int aM, .long aC, .int mM, .long mQ, .int oV, .int pL, .int lI, .int sW, .int dP, .int sT, .long aT, .int 0, .int iW, .ref mI, .ref mJ, .ref mS, .ref mD, .int iH, .int aE, .int mN, .long sZ, .ref mX, .int tS, .int tA, .int tW, .ref mA, .ref mB, .ref mW, .ref mL, .int lS])), (mH, .inl (cI, 512, .inl fH)), (mI, .inl (cL, 1200, .inr (.inl fI))), (mJ, .inl (cI, 4, .inl (k4i j0 j1 j2 j3))), (mS, .inl (cI, 4, .inl (k4i s0 s1 s2 s3))), (mD, .inl (cL, 256, .inr (.inl fD)))] := hD
                      refine lv_aload_n hx hb dX8_copies_251 rfl (lv_at hl 4 rfl) ?_
                      refine lv_lload hx hb dX8_copies_252 (lv_at hl 0 rfl) ?_
                      refine lv_ldc2 (v := (-2)) hx hb hown (hts (.constantLong RX8 111 (-2)) (List.mem_of_getElem? (i := 9) rfl)) dX8_copies_254 ?_
                      refine W.lcmp hx hb dX8_copies_257 ?_
                      refine lv_topi (fun x_218 ex_218 => ?_)
                      obtain rfl : x_218 = (-1) := ex_218.trans (by decide)
                      refine lv_if_ne (tgt := 265) hx hb dX8_copies_258 (by decide) (fun c_258_218 => ?_) (fun c_258_218 => ?_)
                      · have t_258_218 := c_258_218
                        try simp only [kb_eq0, kb_ne0, lg_cmp_lt, lg_cmp_le, lg_cmp_gt, lg_cmp_ge, lg_cmp_eq] at t_258_218
                        try simp only [Int32.lt_iff_toInt_lt, Int32.le_iff_toInt_le, ← Int32.toInt_inj, Int64.lt_iff_toInt_lt, Int64.le_iff_toInt_le, ← Int64.toInt_inj, Int32.toInt_toInt64, Int32.reduceToInt, Int64.reduceToInt] at t_258_218
                        refine lv_iconst (v := 1) hx hb dX8_copies_265 (by decide) ?_
                        refine kCallVd (wr := [(mH, .inl (cI, 512, .inl fH)), (mI, .inl (cL, 1200, .inr (.inl fI))), (mJ, .inl (cI, 4, .inl (k4i j0 j1 j2 j3))), (mS, .inl (cI, 4, .inl (k4i s0 s1 s2 s3))), (mD, .inl (cL, 256, .inr (.inl fD)))]) (va_runV (As := [.int 1]) (rest := []) ⟨hx, hb, hml, hown, hts⟩ (q_go l D cI cL cB cZ cT _ m0 mH mI mJ mS mD mX mA mB mW mL aM aC mM mQ oV pL lI sW dP sT aT 0 iW iH aE mN sZ tS tA tW lS 1) (cwV 1 hts gX8_copies_X8_go rfl rfl rfl (by decide +kernel) ⟨Nat.le_of_ble_eq_true rfl, Nat.le_of_ble_eq_true rfl⟩) (kPreV hG hP hD [0] rfl (by decide) 0 8 rfl rfl rfl) rfl rfl hl.1 rfl (lv_room (Nat.le_of_ble_eq_true rfl)) dX8_copies_266 ⟨Nat.le_of_ble_eq_true rfl, Nat.le_of_ble_eq_true rfl⟩) hA hP hD hS [0] [1, 2, 3, 4, 5] rfl rfl (by decide) (by decide) (fun _ u_r_220 H locs wr_220 hP hD hS => ?_)
                        have hP : va_P D vwCl [(mH, .inl (cI, 512, .inl fH)), (mI, .inl (cL, 1200, .inr (.inl fI))), (mJ, .inl (cI, 4, .inl (k4i j0 j1 j2 j3))), (mS, .inl (cI, 4, .inl (k4i s0 s1 s2 s3))), (mD, .inl (cL, 256, .inr (.inl fD))), (m0, .inr (8, [.ref mH, .int aM, .long aC, .int mM, .long mQ, .int oV, .int u_r_220, .int lI, .int sW, .int dP, .int sT, .long aT, .int 0, .int iW, .ref mI, .ref mJ, .ref mS, .ref mD, .int iH, .int aE, .int mN, .long sZ, .ref mX, .int tS, .int tA, .int tW, .ref mA, .ref mB, .ref mW, .ref mL, .int lS]))] H := hP
                        have hD : va_D A [(mH, .inl (cI, 512, .inl fH)), (mI, .inl (cL, 1200, .inr (.inl fI))), (mJ, .inl (cI, 4, .inl (k4i j0 j1 j2 j3))), (mS, .inl (cI, 4, .inl (k4i s0 s1 s2 s3))), (mD, .inl (cL, 256, .inr (.inl fD))), (m0, .inr (8, [.ref mH, .int aM, .long aC, .int mM, .long mQ, .int oV, .int u_r_220, .int lI, .int sW, .int dP, .int sT, .long aT, .int 0, .int iW, .ref mI, .ref mJ, .ref mS, .ref mD, .int iH, .int aE, .int mN, .long sZ, .ref mX, .int tS, .int tA, .int tW, .ref mA, .ref mB, .ref mW, .ref mL, .int lS]))] := hD
                        try dsimp only at wr_220
                        try simp only [Int32.reduceToInt, Int64.reduceToInt] at wr_220
                        refine lv_iconst (v := 0) hx hb dX8_copies_269 (by decide) ?_
                        refine kIret (u := (u_r_220, dP, 0, iW, fH, fD, fI, j0, j1, j2, j3, s0, s1, s2, s3)) hx hb hr rfl hlocks hS dX8_copies_270 ?_ (hP.sub [5, 0, 1, 2, 3, 4] rfl) (hD.sub [5, 0, 1, 2, 3, 4] (by decide) rfl)
                        try dsimp only
                        try simp only [Int32.reduceToInt, Int64.reduceToInt, true_or, or_true, true_and, and_true]
                        try rw [← ex_210] at hk8
                        repeat' apply And.intro
                        all_goals first | assumption | omega
                      · exact absurd c_258_218 (by decide)
                    · exact absurd (by decide) c_234_216
                  · exact absurd (by decide) c_209_214
                · have t_180_212 := c_180_212
                  try simp only [kb_eq0, kb_ne0, lg_cmp_lt, lg_cmp_le, lg_cmp_gt, lg_cmp_ge, lg_cmp_eq] at t_180_212
                  try simp only [Int32.lt_iff_toInt_lt, Int32.le_iff_toInt_le, ← Int32.toInt_inj, Int64.lt_iff_toInt_lt, Int64.le_iff_toInt_le, ← Int64.toInt_inj, Int32.toInt_toInt64, Int32.reduceToInt, Int64.reduceToInt] at t_180_212
                  refine lv_aload_n hx hb dX8_copies_183 rfl (lv_at hl 3 rfl) ?_
                  refine va_get (D := D) (ci := 8) (v := .ref mI) (C := RX8) (T := TX8) (N := 31) hx hb hts iX8_copies_X8 hown hK hP 0 rfl rfl 14 (by decide) (hts (.fieldLink RX8 13 "TapeCalculatorModel" "item" "[J") (List.mem_of_getElem? (i := 7) rfl)) (fun _ h9 => h9) rfl dX8_copies_184 ?_
                  refine lv_sipush (v := 300) hx hb dX8_copies_187 (by decide) ?_
                  refine lv_iload_n hx hb dX8_copies_190 rfl (lv_at hl 1 rfl) ?_
                  refine lv_imul hx hb dX8_copies_191 ?_
                  refine lv_topi (fun x_221 ex_221 => ?_)
                  obtain rfl : x_221 = 600 := ex_221.trans (by decide)
                  refine lv_iload_n hx hb dX8_copies_192 rfl (lv_at hl 0 rfl) ?_
                  refine lv_iadd hx hb dX8_copies_193 ?_
                  refine va_lald hx hb hK hP 2 1 rfl rfl (vp_in_iff.mpr (by have hx9 := k_addg (a := 600) (b := x_210) (by decide) (by omega); simp only [Int32.reduceToInt] at hx9; omega)) dX8_copies_194 ?_
                  refine lv_goto (tgt := 201) hx hb dX8_copies_195 (by decide) ?_
                  refine lv_topl (fun x_222 ex_222 => ?_)
                  refine lv_lstore (lv' := [(4, .long x_222), (3, .int x_210), (2, .int 2), (1, .int 1), (0, .ref m0)]) hx hb dX8_copies_201 hl (by decide) rfl (fun ls hl => ?_)
                  refine lv_lload hx hb dX8_copies_203 (lv_at hl 0 rfl) ?_
                  refine lv_ldc2 (v := (-9)) hx hb hown (hts (.constantLong RX8 107 (-9)) (List.mem_of_getElem? (i := 8) rfl)) dX8_copies_205 ?_
                  refine W.lcmp hx hb dX8_copies_208 ?_
                  refine lv_if_eq (tgt := 230) hx hb dX8_copies_209 (by decide) (fun c_209_222 => ?_) (fun c_209_222 => ?_)
                  · have t_209_222 := c_209_222
                    try simp only [kb_eq0, kb_ne0, lg_cmp_lt, lg_cmp_le, lg_cmp_gt, lg_cmp_ge, lg_cmp_eq] at t_209_222
                    try simp only [Int32.lt_iff_toInt_lt, Int32.le_iff_toInt_le, ← Int32.toInt_inj, Int64.lt_iff_toInt_lt, Int64.le_iff_toInt_le, ← Int64.toInt_inj, Int32.toInt_toInt64, Int32.reduceToInt, Int64.reduceToInt] at t_209_222
                    refine lv_lload hx hb dX8_copies_230 (lv_at hl 0 rfl) ?_
                    refine lv_lconst (v := 0) hx hb dX8_copies_232 (by decide) ?_
                    refine W.lcmp hx hb dX8_copies_233 ?_
                    refine lv_if_lt (tgt := 246) hx hb dX8_copies_234 (by decide) (fun c_234_223 => ?_) (fun c_234_223 => ?_)
                    · have t_234_223 := c_234_223
                      try simp only [kb_eq0, kb_ne0, lg_cmp_lt, lg_cmp_le, lg_cmp_gt, lg_cmp_ge, lg_cmp_eq] at t_234_223
                      try simp only [Int32.lt_iff_toInt_lt, Int32.le_iff_toInt_le, ← Int32.toInt_inj, Int64.lt_iff_toInt_lt, Int64.le_iff_toInt_le, ← Int64.toInt_inj, Int32.toInt_toInt64, Int32.reduceToInt, Int64.reduceToInt] at t_234_223
                      refine lv_aload_n hx hb dX8_copies_246 rfl (lv_at hl 4 rfl) ?_
                      refine lv_iconst (v := 0) hx hb dX8_copies_247 (by decide) ?_
                      refine va_put (D := D) (ci := 8) (v := .int 0) (ty := .int) (C := RX8) (T := TX8) (N := 31) hx hb hts iX8_copies_X8 tyX8 tyX8_ok nmX8 hown hK hP hD hS 0 rfl rfl 12 (by decide) (hts (.fieldLink RX8 43 "TapeCalculatorModel" "chosen" "I") (List.mem_of_getElem? (i := 1) rfl)) (fun _ h9 => h9) rfl (by decide +kernel) rfl rfl (Nat.le_of_ble_eq_true rfl) dX8_copies_248 (fun H locs hP hD hS => ?_)
                      have hP : va_P D vwCl [(m0, .inr (8, [.ref mH, .int aM, .long aC, .int mM, .long mQ, .int oV, .int pL, .int lI, .int sW, .int dP, .int sT, .long aT, .int 0, .int iW, .ref mI, .ref mJ, .ref mS, .ref mD, .int iH, .int aE, .int mN, .long sZ, .ref mX, .int tS, .int tA, .int tW, .ref mA, .ref mB, .ref mW, .ref mL, .int lS])), (mH, .inl (cI, 512, .inl fH)), (mI, .inl (cL, 1200, .inr (.inl fI))), (mJ, .inl (cI, 4, .inl (k4i j0 j1 j2 j3))), (mS, .inl (cI, 4, .inl (k4i s0 s1 s2 s3))), (mD, .inl (cL, 256, .inr (.inl fD)))] H := hP
                      have hD : va_D A [(m0, .inr (8, [.ref mH, .int aM, .long aC, .int mM, .long mQ, .int oV, .int pL, .int lI, .int sW, .int dP, .int sT, .long aT, .int 0, .int iW, .ref mI, .ref mJ, .ref mS, .ref mD, .int iH, .int aE, .int mN, .long sZ, .ref mX, .int tS, .int tA, .int tW, .ref mA, .ref mB, .ref mW, .ref mL, .int lS])), (mH, .inl (cI, 512, .inl fH)), (mI, .inl (cL, 1200, .inr (.inl fI))), (mJ, .inl (cI, 4, .inl (k4i j0 j1 j2 j3))), (mS, .inl (cI, 4, .inl (k4i s0 s1 s2 s3))), (mD, .inl (cL, 256, .inr (.inl fD)))] := hD
                      refine lv_aload_n hx hb dX8_copies_251 rfl (lv_at hl 4 rfl) ?_
                      refine lv_lload hx hb dX8_copies_252 (lv_at hl 0 rfl) ?_
                      refine lv_ldc2 (v := (-2)) hx hb hown (hts (.constantLong RX8 111 (-2)) (List.mem_of_getElem? (i := 9) rfl)) dX8_copies_254 ?_
                      refine W.lcmp hx hb dX8_copies_257 ?_
                      refine lv_if_ne (tgt := 265) hx hb dX8_copies_258 (by decide) (fun c_258_224 => ?_) (fun c_258_224 => ?_)
                      · have t_258_224 := c_258_224
                        try simp only [kb_eq0, kb_ne0, lg_cmp_lt, lg_cmp_le, lg_cmp_gt, lg_cmp_ge, lg_cmp_eq] at t_258_224
                        try simp only [Int32.lt_iff_toInt_lt, Int32.le_iff_toInt_le, ← Int32.toInt_inj, Int64.lt_iff_toInt_lt, Int64.le_iff_toInt_le, ← Int64.toInt_inj, Int32.toInt_toInt64, Int32.reduceToInt, Int64.reduceToInt] at t_258_224
                        refine lv_iconst (v := 1) hx hb dX8_copies_265 (by decide) ?_
                        refine kCallVd (wr := [(mH, .inl (cI, 512, .inl fH)), (mI, .inl (cL, 1200, .inr (.inl fI))), (mJ, .inl (cI, 4, .inl (k4i j0 j1 j2 j3))), (mS, .inl (cI, 4, .inl (k4i s0 s1 s2 s3))), (mD, .inl (cL, 256, .inr (.inl fD)))]) (va_runV (As := [.int 1]) (rest := []) ⟨hx, hb, hml, hown, hts⟩ (q_go l D cI cL cB cZ cT _ m0 mH mI mJ mS mD mX mA mB mW mL aM aC mM mQ oV pL lI sW dP sT aT 0 iW iH aE mN sZ tS tA tW lS 1) (cwV 1 hts gX8_copies_X8_go rfl rfl rfl (by decide +kernel) ⟨Nat.le_of_ble_eq_true rfl, Nat.le_of_ble_eq_true rfl⟩) (kPreV hG hP hD [0] rfl (by decide) 0 8 rfl rfl rfl) rfl rfl hl.1 rfl (lv_room (Nat.le_of_ble_eq_true rfl)) dX8_copies_266 ⟨Nat.le_of_ble_eq_true rfl, Nat.le_of_ble_eq_true rfl⟩) hA hP hD hS [0] [1, 2, 3, 4, 5] rfl rfl (by decide) (by decide) (fun _ u_r_226 H locs wr_226 hP hD hS => ?_)
                        have hP : va_P D vwCl [(mH, .inl (cI, 512, .inl fH)), (mI, .inl (cL, 1200, .inr (.inl fI))), (mJ, .inl (cI, 4, .inl (k4i j0 j1 j2 j3))), (mS, .inl (cI, 4, .inl (k4i s0 s1 s2 s3))), (mD, .inl (cL, 256, .inr (.inl fD))), (m0, .inr (8, [.ref mH, .int aM, .long aC, .int mM, .long mQ, .int oV, .int u_r_226, .int lI, .int sW, .int dP, .int sT, .long aT, .int 0, .int iW, .ref mI, .ref mJ, .ref mS, .ref mD, .int iH, .int aE, .int mN, .long sZ, .ref mX, .int tS, .int tA, .int tW, .ref mA, .ref mB, .ref mW, .ref mL, .int lS]))] H := hP
                        have hD : va_D A [(mH, .inl (cI, 512, .inl fH)), (mI, .inl (cL, 1200, .inr (.inl fI))), (mJ, .inl (cI, 4, .inl (k4i j0 j1 j2 j3))), (mS, .inl (cI, 4, .inl (k4i s0 s1 s2 s3))), (mD, .inl (cL, 256, .inr (.inl fD))), (m0, .inr (8, [.ref mH, .int aM, .long aC, .int mM, .long mQ, .int oV, .int u_r_226, .int lI, .int sW, .int dP, .int sT, .long aT, .int 0, .int iW, .ref mI, .ref mJ, .ref mS, .ref mD, .int iH, .int aE, .int mN, .long sZ, .ref mX, .int tS, .int tA, .int tW, .ref mA, .ref mB, .ref mW, .ref mL, .int lS]))] := hD
                        try dsimp only at wr_226
                        try simp only [Int32.reduceToInt, Int64.reduceToInt] at wr_226
                        refine lv_iconst (v := 0) hx hb dX8_copies_269 (by decide) ?_
                        refine kIret (u := (u_r_226, dP, 0, iW, fH, fD, fI, j0, j1, j2, j3, s0, s1, s2, s3)) hx hb hr rfl hlocks hS dX8_copies_270 ?_ (hP.sub [5, 0, 1, 2, 3, 4] rfl) (hD.sub [5, 0, 1, 2, 3, 4] (by decide) rfl)
                        try dsimp only
                        try simp only [Int32.reduceToInt, Int64.reduceToInt, true_or, or_true, true_and, and_true]
                        try rw [← ex_210] at hk8
                        try rw [← ex_222] at hk8
                        repeat' apply And.intro
                        all_goals first | assumption | omega
                      · have t_258_224 := c_258_224
                        try simp only [kb_eq0, kb_ne0, lg_cmp_lt, lg_cmp_le, lg_cmp_gt, lg_cmp_ge, lg_cmp_eq] at t_258_224
                        try simp only [Int32.lt_iff_toInt_lt, Int32.le_iff_toInt_le, ← Int32.toInt_inj, Int64.lt_iff_toInt_lt, Int64.le_iff_toInt_le, ← Int64.toInt_inj, Int32.toInt_toInt64, Int32.reduceToInt, Int64.reduceToInt] at t_258_224
                        refine lv_iconst (v := 2) hx hb dX8_copies_261 (by decide) ?_
                        refine lv_goto (tgt := 266) hx hb dX8_copies_262 (by decide) ?_
                        refine kCallVd (wr := [(mH, .inl (cI, 512, .inl fH)), (mI, .inl (cL, 1200, .inr (.inl fI))), (mJ, .inl (cI, 4, .inl (k4i j0 j1 j2 j3))), (mS, .inl (cI, 4, .inl (k4i s0 s1 s2 s3))), (mD, .inl (cL, 256, .inr (.inl fD)))]) (va_runV (As := [.int 2]) (rest := []) ⟨hx, hb, hml, hown, hts⟩ (q_go l D cI cL cB cZ cT _ m0 mH mI mJ mS mD mX mA mB mW mL aM aC mM mQ oV pL lI sW dP sT aT 0 iW iH aE mN sZ tS tA tW lS 2) (cwV 1 hts gX8_copies_X8_go rfl rfl rfl (by decide +kernel) ⟨Nat.le_of_ble_eq_true rfl, Nat.le_of_ble_eq_true rfl⟩) (kPreV hG hP hD [0] rfl (by decide) 0 8 rfl rfl rfl) rfl rfl hl.1 rfl (lv_room (Nat.le_of_ble_eq_true rfl)) dX8_copies_266 ⟨Nat.le_of_ble_eq_true rfl, Nat.le_of_ble_eq_true rfl⟩) hA hP hD hS [0] [1, 2, 3, 4, 5] rfl rfl (by decide) (by decide) (fun _ u_r_227 H locs wr_227 hP hD hS => ?_)
                        have hP : va_P D vwCl [(mH, .inl (cI, 512, .inl fH)), (mI, .inl (cL, 1200, .inr (.inl fI))), (mJ, .inl (cI, 4, .inl (k4i j0 j1 j2 j3))), (mS, .inl (cI, 4, .inl (k4i s0 s1 s2 s3))), (mD, .inl (cL, 256, .inr (.inl fD))), (m0, .inr (8, [.ref mH, .int aM, .long aC, .int mM, .long mQ, .int oV, .int u_r_227, .int lI, .int sW, .int dP, .int sT, .long aT, .int 0, .int iW, .ref mI, .ref mJ, .ref mS, .ref mD, .int iH, .int aE, .int mN, .long sZ, .ref mX, .int tS, .int tA, .int tW, .ref mA, .ref mB, .ref mW, .ref mL, .int lS]))] H := hP
                        have hD : va_D A [(mH, .inl (cI, 512, .inl fH)), (mI, .inl (cL, 1200, .inr (.inl fI))), (mJ, .inl (cI, 4, .inl (k4i j0 j1 j2 j3))), (mS, .inl (cI, 4, .inl (k4i s0 s1 s2 s3))), (mD, .inl (cL, 256, .inr (.inl fD))), (m0, .inr (8, [.ref mH, .int aM, .long aC, .int mM, .long mQ, .int oV, .int u_r_227, .int lI, .int sW, .int dP, .int sT, .long aT, .int 0, .int iW, .ref mI, .ref mJ, .ref mS, .ref mD, .int iH, .int aE, .int mN, .long sZ, .ref mX, .int tS, .int tA, .int tW, .ref mA, .ref mB, .ref mW, .ref mL, .int lS]))] := hD
                        try dsimp only at wr_227
                        try simp only [Int32.reduceToInt, Int64.reduceToInt] at wr_227
                        refine lv_iconst (v := 0) hx hb dX8_copies_269 (by decide) ?_
                        refine kIret (u := (u_r_227, dP, 0, iW, fH, fD, fI, j0, j1, j2, j3, s0, s1, s2, s3)) hx hb hr rfl hlocks hS dX8_copies_270 ?_ (hP.sub [5, 0, 1, 2, 3, 4] rfl) (hD.sub [5, 0, 1, 2, 3, 4] (by decide) rfl)
                        try dsimp only
                        try simp only [Int32.reduceToInt, Int64.reduceToInt, true_or, or_true, true_and, and_true]
                        try rw [← ex_210] at hk8
                        try rw [← ex_222] at hk8
                        repeat' apply And.intro
                        all_goals first | assumption | omega
                    · have t_234_223 := c_234_223
                      try simp only [kb_eq0, kb_ne0, lg_cmp_lt, lg_cmp_le, lg_cmp_gt, lg_cmp_ge, lg_cmp_eq] at t_234_223
                      try simp only [Int32.lt_iff_toInt_lt, Int32.le_iff_toInt_le, ← Int32.toInt_inj, Int64.lt_iff_toInt_lt, Int64.le_iff_toInt_le, ← Int64.toInt_inj, Int32.toInt_toInt64, Int32.reduceToInt, Int64.reduceToInt] at t_234_223
                      refine lv_aload_n hx hb dX8_copies_237 rfl (lv_at hl 4 rfl) ?_
                      refine lv_lload hx hb dX8_copies_238 (lv_at hl 0 rfl) ?_
                      refine kCallVd (wr := [(mI, .inl (cL, 1200, .inr (.inl fI))), (mJ, .inl (cI, 4, .inl (k4i j0 j1 j2 j3))), (mS, .inl (cI, 4, .inl (k4i s0 s1 s2 s3))), (mD, .inl (cL, 256, .inr (.inl fD)))]) (va_runV (As := [.long x_222]) (rest := []) ⟨hx, hb, hml, hown, hts⟩ (q_store l D cI cL cB cZ cT _ m0 mH mI mJ mS mD mX mA mB mW mL aM aC mM mQ oV pL lI sW dP sT aT 7 iW iH aE mN sZ tS tA tW lS fH x_222 (by omega)) (cwV 1 hts gX8_copies_X8_store rfl rfl rfl (by decide +kernel) ⟨Nat.le_of_ble_eq_true rfl, Nat.le_of_ble_eq_true rfl⟩) (kPreV hG hP hD [0, 1] rfl (by decide) 0 8 rfl rfl rfl) rfl rfl hl.1 rfl (lv_room (Nat.le_of_ble_eq_true rfl)) dX8_copies_240 ⟨Nat.le_of_ble_eq_true rfl, Nat.le_of_ble_eq_true rfl⟩) hA hP hD hS [0, 1] [2, 3, 4, 5] rfl rfl (by decide) (by decide) (fun _ u_r_228 H locs wr_228 hP hD hS => ?_)
                      have hP : va_P D vwCl [(mI, .inl (cL, 1200, .inr (.inl fI))), (mJ, .inl (cI, 4, .inl (k4i j0 j1 j2 j3))), (mS, .inl (cI, 4, .inl (k4i s0 s1 s2 s3))), (mD, .inl (cL, 256, .inr (.inl fD))), (m0, .inr (8, [.ref mH, .int aM, .long aC, .int mM, .long mQ, .int oV, .int pL, .int lI, .int sW, .int dP, .int sT, .long aT, .int 7, .int iW, .ref mI, .ref mJ, .ref mS, .ref mD, .int iH, .int aE, .int mN, .long sZ, .ref mX, .int tS, .int tA, .int tW, .ref mA, .ref mB, .ref mW, .ref mL, .int lS])), (mH, .inl (cI, 512, .inl u_r_228))] H := hP
                      have hD : va_D A [(mI, .inl (cL, 1200, .inr (.inl fI))), (mJ, .inl (cI, 4, .inl (k4i j0 j1 j2 j3))), (mS, .inl (cI, 4, .inl (k4i s0 s1 s2 s3))), (mD, .inl (cL, 256, .inr (.inl fD))), (m0, .inr (8, [.ref mH, .int aM, .long aC, .int mM, .long mQ, .int oV, .int pL, .int lI, .int sW, .int dP, .int sT, .long aT, .int 7, .int iW, .ref mI, .ref mJ, .ref mS, .ref mD, .int iH, .int aE, .int mN, .long sZ, .ref mX, .int tS, .int tA, .int tW, .ref mA, .ref mB, .ref mW, .ref mL, .int lS])), (mH, .inl (cI, 512, .inl u_r_228))] := hD
                      try dsimp only at wr_228
                      try simp only [Int32.reduceToInt, Int64.reduceToInt] at wr_228
                      refine lv_goto (tgt := 269) hx hb dX8_copies_243 (by decide) ?_
                      refine lv_iconst (v := 0) hx hb dX8_copies_269 (by decide) ?_
                      refine kIret (u := (pL, dP, 7, iW, u_r_228, fD, fI, j0, j1, j2, j3, s0, s1, s2, s3)) hx hb hr rfl hlocks hS dX8_copies_270 ?_ (hP.sub [4, 5, 0, 1, 2, 3] rfl) (hD.sub [4, 5, 0, 1, 2, 3] (by decide) rfl)
                      try dsimp only
                      try simp only [Int32.reduceToInt, Int64.reduceToInt, true_or, or_true, true_and, and_true]
                      try rw [← ex_210] at hk8
                      try rw [← ex_222] at hk8
                      repeat' apply And.intro
                      all_goals first | assumption | omega
                  · have t_209_222 := c_209_222
                    try simp only [kb_eq0, kb_ne0, lg_cmp_lt, lg_cmp_le, lg_cmp_gt, lg_cmp_ge, lg_cmp_eq] at t_209_222
                    try simp only [Int32.lt_iff_toInt_lt, Int32.le_iff_toInt_le, ← Int32.toInt_inj, Int64.lt_iff_toInt_lt, Int64.le_iff_toInt_le, ← Int64.toInt_inj, Int32.toInt_toInt64, Int32.reduceToInt, Int64.reduceToInt] at t_209_222
                    refine lv_aload_n hx hb dX8_copies_212 rfl (lv_at hl 4 rfl) ?_
                    refine va_get (D := D) (ci := 8) (v := .ref mS) (C := RX8) (T := TX8) (N := 31) hx hb hts iX8_copies_X8 hown hK hP 0 rfl rfl 16 (by decide) (hts (.fieldLink RX8 20 "TapeCalculatorModel" "stands" "[I") (List.mem_of_getElem? (i := 5) rfl)) (fun _ h9 => h9) rfl dX8_copies_213 ?_
                    refine lv_iload_n hx hb dX8_copies_216 rfl (lv_at hl 2 rfl) ?_
                    refine lv_dup2_11 hx hb dX8_copies_217 rfl rfl ?_
                    refine va_iald hx hb hK hP 4 0 rfl rfl (vp_in_iff.mpr (by decide)) dX8_copies_218 ?_
                    refine lv_topi (fun x_229 ex_229 => ?_)
                    obtain rfl : s2 = x_229 := ex_229.symm
                    refine lv_iload_n hx hb dX8_copies_219 rfl (lv_at hl 3 rfl) ?_
                    refine lv_if_eq (tgt := 227) hx hb dX8_copies_220 (by decide) (fun c_220_229 => ?_) (fun c_220_229 => ?_)
                    · exact absurd c_220_229 (by decide)
                    · have t_220_229 := c_220_229
                      try simp only [kb_eq0, kb_ne0, lg_cmp_lt, lg_cmp_le, lg_cmp_gt, lg_cmp_ge, lg_cmp_eq] at t_220_229
                      try simp only [Int32.lt_iff_toInt_lt, Int32.le_iff_toInt_le, ← Int32.toInt_inj, Int64.lt_iff_toInt_lt, Int64.le_iff_toInt_le, ← Int64.toInt_inj, Int32.toInt_toInt64, Int32.reduceToInt, Int64.reduceToInt] at t_220_229
                      refine lv_iconst (v := (-1)) hx hb dX8_copies_223 (by decide) ?_
                      refine lv_goto (tgt := 228) hx hb dX8_copies_224 (by decide) ?_
                      refine lv_iadd hx hb dX8_copies_228 ?_
                      refine va_iast hx hb hK hP hD hS 4 0 rfl rfl (vp_in_iff.mpr (by decide)) dX8_copies_229 (fun H locs hP hD hS => ?_)
                      rw [k4i_2] at hP hD
                      have hP : va_P D vwCl [(m0, .inr (8, [.ref mH, .int aM, .long aC, .int mM, .long mQ, .int oV, .int pL, .int lI, .int sW, .int dP, .int sT, .long aT, .int 7, .int iW, .ref mI, .ref mJ, .ref mS, .ref mD, .int iH, .int aE, .int mN, .long sZ, .ref mX, .int tS, .int tA, .int tW, .ref mA, .ref mB, .ref mW, .ref mL, .int lS])), (mH, .inl (cI, 512, .inl fH)), (mI, .inl (cL, 1200, .inr (.inl fI))), (mJ, .inl (cI, 4, .inl (k4i j0 j1 j2 j3))), (mS, .inl (cI, 4, .inl (k4i s0 s1 (s2 + (-1)) s3))), (mD, .inl (cL, 256, .inr (.inl fD)))] H := hP
                      have hD : va_D A [(m0, .inr (8, [.ref mH, .int aM, .long aC, .int mM, .long mQ, .int oV, .int pL, .int lI, .int sW, .int dP, .int sT, .long aT, .int 7, .int iW, .ref mI, .ref mJ, .ref mS, .ref mD, .int iH, .int aE, .int mN, .long sZ, .ref mX, .int tS, .int tA, .int tW, .ref mA, .ref mB, .ref mW, .ref mL, .int lS])), (mH, .inl (cI, 512, .inl fH)), (mI, .inl (cL, 1200, .inr (.inl fI))), (mJ, .inl (cI, 4, .inl (k4i j0 j1 j2 j3))), (mS, .inl (cI, 4, .inl (k4i s0 s1 (s2 + (-1)) s3))), (mD, .inl (cL, 256, .inr (.inl fD)))] := hD
                      refine lv_lload hx hb dX8_copies_230 (lv_at hl 0 rfl) ?_
                      refine lv_lconst (v := 0) hx hb dX8_copies_232 (by decide) ?_
                      refine W.lcmp hx hb dX8_copies_233 ?_
                      refine lv_if_lt (tgt := 246) hx hb dX8_copies_234 (by decide) (fun c_234_230 => ?_) (fun c_234_230 => ?_)
                      · have t_234_230 := c_234_230
                        try simp only [kb_eq0, kb_ne0, lg_cmp_lt, lg_cmp_le, lg_cmp_gt, lg_cmp_ge, lg_cmp_eq] at t_234_230
                        try simp only [Int32.lt_iff_toInt_lt, Int32.le_iff_toInt_le, ← Int32.toInt_inj, Int64.lt_iff_toInt_lt, Int64.le_iff_toInt_le, ← Int64.toInt_inj, Int32.toInt_toInt64, Int32.reduceToInt, Int64.reduceToInt] at t_234_230
                        refine lv_aload_n hx hb dX8_copies_246 rfl (lv_at hl 4 rfl) ?_
                        refine lv_iconst (v := 0) hx hb dX8_copies_247 (by decide) ?_
                        refine va_put (D := D) (ci := 8) (v := .int 0) (ty := .int) (C := RX8) (T := TX8) (N := 31) hx hb hts iX8_copies_X8 tyX8 tyX8_ok nmX8 hown hK hP hD hS 0 rfl rfl 12 (by decide) (hts (.fieldLink RX8 43 "TapeCalculatorModel" "chosen" "I") (List.mem_of_getElem? (i := 1) rfl)) (fun _ h9 => h9) rfl (by decide +kernel) rfl rfl (Nat.le_of_ble_eq_true rfl) dX8_copies_248 (fun H locs hP hD hS => ?_)
                        have hP : va_P D vwCl [(m0, .inr (8, [.ref mH, .int aM, .long aC, .int mM, .long mQ, .int oV, .int pL, .int lI, .int sW, .int dP, .int sT, .long aT, .int 0, .int iW, .ref mI, .ref mJ, .ref mS, .ref mD, .int iH, .int aE, .int mN, .long sZ, .ref mX, .int tS, .int tA, .int tW, .ref mA, .ref mB, .ref mW, .ref mL, .int lS])), (mH, .inl (cI, 512, .inl fH)), (mI, .inl (cL, 1200, .inr (.inl fI))), (mJ, .inl (cI, 4, .inl (k4i j0 j1 j2 j3))), (mS, .inl (cI, 4, .inl (k4i s0 s1 (s2 + (-1)) s3))), (mD, .inl (cL, 256, .inr (.inl fD)))] H := hP
                        have hD : va_D A [(m0, .inr (8, [.ref mH, .int aM, .long aC, .int mM, .long mQ, .int oV, .int pL, .int lI, .int sW, .int dP, .int sT, .long aT, .int 0, .int iW, .ref mI, .ref mJ, .ref mS, .ref mD, .int iH, .int aE, .int mN, .long sZ, .ref mX, .int tS, .int tA, .int tW, .ref mA, .ref mB, .ref mW, .ref mL, .int lS])), (mH, .inl (cI, 512, .inl fH)), (mI, .inl (cL, 1200, .inr (.inl fI))), (mJ, .inl (cI, 4, .inl (k4i j0 j1 j2 j3))), (mS, .inl (cI, 4, .inl (k4i s0 s1 (s2 + (-1)) s3))), (mD, .inl (cL, 256, .inr (.inl fD)))] := hD
                        refine lv_aload_n hx hb dX8_copies_251 rfl (lv_at hl 4 rfl) ?_
                        refine lv_lload hx hb dX8_copies_252 (lv_at hl 0 rfl) ?_
                        refine lv_ldc2 (v := (-2)) hx hb hown (hts (.constantLong RX8 111 (-2)) (List.mem_of_getElem? (i := 9) rfl)) dX8_copies_254 ?_
                        refine W.lcmp hx hb dX8_copies_257 ?_
                        refine lv_if_ne (tgt := 265) hx hb dX8_copies_258 (by decide) (fun c_258_231 => ?_) (fun c_258_231 => ?_)
                        · have t_258_231 := c_258_231
                          try simp only [kb_eq0, kb_ne0, lg_cmp_lt, lg_cmp_le, lg_cmp_gt, lg_cmp_ge, lg_cmp_eq] at t_258_231
                          try simp only [Int32.lt_iff_toInt_lt, Int32.le_iff_toInt_le, ← Int32.toInt_inj, Int64.lt_iff_toInt_lt, Int64.le_iff_toInt_le, ← Int64.toInt_inj, Int32.toInt_toInt64, Int32.reduceToInt, Int64.reduceToInt] at t_258_231
                          refine lv_iconst (v := 1) hx hb dX8_copies_265 (by decide) ?_
                          refine kCallVd (wr := [(mH, .inl (cI, 512, .inl fH)), (mI, .inl (cL, 1200, .inr (.inl fI))), (mJ, .inl (cI, 4, .inl (k4i j0 j1 j2 j3))), (mS, .inl (cI, 4, .inl (k4i s0 s1 (s2 + (-1)) s3))), (mD, .inl (cL, 256, .inr (.inl fD)))]) (va_runV (As := [.int 1]) (rest := []) ⟨hx, hb, hml, hown, hts⟩ (q_go l D cI cL cB cZ cT _ m0 mH mI mJ mS mD mX mA mB mW mL aM aC mM mQ oV pL lI sW dP sT aT 0 iW iH aE mN sZ tS tA tW lS 1) (cwV 1 hts gX8_copies_X8_go rfl rfl rfl (by decide +kernel) ⟨Nat.le_of_ble_eq_true rfl, Nat.le_of_ble_eq_true rfl⟩) (kPreV hG hP hD [0] rfl (by decide) 0 8 rfl rfl rfl) rfl rfl hl.1 rfl (lv_room (Nat.le_of_ble_eq_true rfl)) dX8_copies_266 ⟨Nat.le_of_ble_eq_true rfl, Nat.le_of_ble_eq_true rfl⟩) hA hP hD hS [0] [1, 2, 3, 4, 5] rfl rfl (by decide) (by decide) (fun _ u_r_233 H locs wr_233 hP hD hS => ?_)
                          have hP : va_P D vwCl [(mH, .inl (cI, 512, .inl fH)), (mI, .inl (cL, 1200, .inr (.inl fI))), (mJ, .inl (cI, 4, .inl (k4i j0 j1 j2 j3))), (mS, .inl (cI, 4, .inl (k4i s0 s1 (s2 + (-1)) s3))), (mD, .inl (cL, 256, .inr (.inl fD))), (m0, .inr (8, [.ref mH, .int aM, .long aC, .int mM, .long mQ, .int oV, .int u_r_233, .int lI, .int sW, .int dP, .int sT, .long aT, .int 0, .int iW, .ref mI, .ref mJ, .ref mS, .ref mD, .int iH, .int aE, .int mN, .long sZ, .ref mX, .int tS, .int tA, .int tW, .ref mA, .ref mB, .ref mW, .ref mL, .int lS]))] H := hP
                          have hD : va_D A [(mH, .inl (cI, 512, .inl fH)), (mI, .inl (cL, 1200, .inr (.inl fI))), (mJ, .inl (cI, 4, .inl (k4i j0 j1 j2 j3))), (mS, .inl (cI, 4, .inl (k4i s0 s1 (s2 + (-1)) s3))), (mD, .inl (cL, 256, .inr (.inl fD))), (m0, .inr (8, [.ref mH, .int aM, .long aC, .int mM, .long mQ, .int oV, .int u_r_233, .int lI, .int sW, .int dP, .int sT, .long aT, .int 0, .int iW, .ref mI, .ref mJ, .ref mS, .ref mD, .int iH, .int aE, .int mN, .long sZ, .ref mX, .int tS, .int tA, .int tW, .ref mA, .ref mB, .ref mW, .ref mL, .int lS]))] := hD
                          try dsimp only at wr_233
                          try simp only [Int32.reduceToInt, Int64.reduceToInt] at wr_233
                          refine lv_iconst (v := 0) hx hb dX8_copies_269 (by decide) ?_
                          refine kIret (u := (u_r_233, dP, 0, iW, fH, fD, fI, j0, j1, j2, j3, s0, s1, (s2 + (-1)), s3)) hx hb hr rfl hlocks hS dX8_copies_270 ?_ (hP.sub [5, 0, 1, 2, 3, 4] rfl) (hD.sub [5, 0, 1, 2, 3, 4] (by decide) rfl)
                          try dsimp only
                          try simp only [Int32.reduceToInt, Int64.reduceToInt, true_or, or_true, true_and, and_true]
                          try rw [← ex_210] at hk8
                          try rw [← ex_222] at hk8
                          repeat' apply And.intro
                          all_goals first | assumption | omega
                        · have t_258_231 := c_258_231
                          try simp only [kb_eq0, kb_ne0, lg_cmp_lt, lg_cmp_le, lg_cmp_gt, lg_cmp_ge, lg_cmp_eq] at t_258_231
                          try simp only [Int32.lt_iff_toInt_lt, Int32.le_iff_toInt_le, ← Int32.toInt_inj, Int64.lt_iff_toInt_lt, Int64.le_iff_toInt_le, ← Int64.toInt_inj, Int32.toInt_toInt64, Int32.reduceToInt, Int64.reduceToInt] at t_258_231
                          refine lv_iconst (v := 2) hx hb dX8_copies_261 (by decide) ?_
                          refine lv_goto (tgt := 266) hx hb dX8_copies_262 (by decide) ?_
                          refine kCallVd (wr := [(mH, .inl (cI, 512, .inl fH)), (mI, .inl (cL, 1200, .inr (.inl fI))), (mJ, .inl (cI, 4, .inl (k4i j0 j1 j2 j3))), (mS, .inl (cI, 4, .inl (k4i s0 s1 (s2 + (-1)) s3))), (mD, .inl (cL, 256, .inr (.inl fD)))]) (va_runV (As := [.int 2]) (rest := []) ⟨hx, hb, hml, hown, hts⟩ (q_go l D cI cL cB cZ cT _ m0 mH mI mJ mS mD mX mA mB mW mL aM aC mM mQ oV pL lI sW dP sT aT 0 iW iH aE mN sZ tS tA tW lS 2) (cwV 1 hts gX8_copies_X8_go rfl rfl rfl (by decide +kernel) ⟨Nat.le_of_ble_eq_true rfl, Nat.le_of_ble_eq_true rfl⟩) (kPreV hG hP hD [0] rfl (by decide) 0 8 rfl rfl rfl) rfl rfl hl.1 rfl (lv_room (Nat.le_of_ble_eq_true rfl)) dX8_copies_266 ⟨Nat.le_of_ble_eq_true rfl, Nat.le_of_ble_eq_true rfl⟩) hA hP hD hS [0] [1, 2, 3, 4, 5] rfl rfl (by decide) (by decide) (fun _ u_r_234 H locs wr_234 hP hD hS => ?_)
                          have hP : va_P D vwCl [(mH, .inl (cI, 512, .inl fH)), (mI, .inl (cL, 1200, .inr (.inl fI))), (mJ, .inl (cI, 4, .inl (k4i j0 j1 j2 j3))), (mS, .inl (cI, 4, .inl (k4i s0 s1 (s2 + (-1)) s3))), (mD, .inl (cL, 256, .inr (.inl fD))), (m0, .inr (8, [.ref mH, .int aM, .long aC, .int mM, .long mQ, .int oV, .int u_r_234, .int lI, .int sW, .int dP, .int sT, .long aT, .int 0, .int iW, .ref mI, .ref mJ, .ref mS, .ref mD, .int iH, .int aE, .int mN, .long sZ, .ref mX, .int tS, .int tA, .int tW, .ref mA, .ref mB, .ref mW, .ref mL, .int lS]))] H := hP
                          have hD : va_D A [(mH, .inl (cI, 512, .inl fH)), (mI, .inl (cL, 1200, .inr (.inl fI))), (mJ, .inl (cI, 4, .inl (k4i j0 j1 j2 j3))), (mS, .inl (cI, 4, .inl (k4i s0 s1 (s2 + (-1)) s3))), (mD, .inl (cL, 256, .inr (.inl fD))), (m0, .inr (8, [.ref mH, .int aM, .long aC, .int mM, .long mQ, .int oV, .int u_r_234, .int lI, .int sW, .int dP, .int sT, .long aT, .int 0, .int iW, .ref mI, .ref mJ, .ref mS, .ref mD, .int iH, .int aE, .int mN, .long sZ, .ref mX, .int tS, .int tA, .int tW, .ref mA, .ref mB, .ref mW, .ref mL, .int lS]))] := hD
                          try dsimp only at wr_234
                          try simp only [Int32.reduceToInt, Int64.reduceToInt] at wr_234
                          refine lv_iconst (v := 0) hx hb dX8_copies_269 (by decide) ?_
                          refine kIret (u := (u_r_234, dP, 0, iW, fH, fD, fI, j0, j1, j2, j3, s0, s1, (s2 + (-1)), s3)) hx hb hr rfl hlocks hS dX8_copies_270 ?_ (hP.sub [5, 0, 1, 2, 3, 4] rfl) (hD.sub [5, 0, 1, 2, 3, 4] (by decide) rfl)
                          try dsimp only
                          try simp only [Int32.reduceToInt, Int64.reduceToInt, true_or, or_true, true_and, and_true]
                          try rw [← ex_210] at hk8
                          try rw [← ex_222] at hk8
                          repeat' apply And.intro
                          all_goals first | assumption | omega
                      · have t_234_230 := c_234_230
                        try simp only [kb_eq0, kb_ne0, lg_cmp_lt, lg_cmp_le, lg_cmp_gt, lg_cmp_ge, lg_cmp_eq] at t_234_230
                        try simp only [Int32.lt_iff_toInt_lt, Int32.le_iff_toInt_le, ← Int32.toInt_inj, Int64.lt_iff_toInt_lt, Int64.le_iff_toInt_le, ← Int64.toInt_inj, Int32.toInt_toInt64, Int32.reduceToInt, Int64.reduceToInt] at t_234_230
                        refine lv_aload_n hx hb dX8_copies_237 rfl (lv_at hl 4 rfl) ?_
                        refine lv_lload hx hb dX8_copies_238 (lv_at hl 0 rfl) ?_
                        refine kCallVd (wr := [(mI, .inl (cL, 1200, .inr (.inl fI))), (mJ, .inl (cI, 4, .inl (k4i j0 j1 j2 j3))), (mS, .inl (cI, 4, .inl (k4i s0 s1 (s2 + (-1)) s3))), (mD, .inl (cL, 256, .inr (.inl fD)))]) (va_runV (As := [.long x_222]) (rest := []) ⟨hx, hb, hml, hown, hts⟩ (q_store l D cI cL cB cZ cT _ m0 mH mI mJ mS mD mX mA mB mW mL aM aC mM mQ oV pL lI sW dP sT aT 7 iW iH aE mN sZ tS tA tW lS fH x_222 (by omega)) (cwV 1 hts gX8_copies_X8_store rfl rfl rfl (by decide +kernel) ⟨Nat.le_of_ble_eq_true rfl, Nat.le_of_ble_eq_true rfl⟩) (kPreV hG hP hD [0, 1] rfl (by decide) 0 8 rfl rfl rfl) rfl rfl hl.1 rfl (lv_room (Nat.le_of_ble_eq_true rfl)) dX8_copies_240 ⟨Nat.le_of_ble_eq_true rfl, Nat.le_of_ble_eq_true rfl⟩) hA hP hD hS [0, 1] [2, 3, 4, 5] rfl rfl (by decide) (by decide) (fun _ u_r_235 H locs wr_235 hP hD hS => ?_)
                        have hP : va_P D vwCl [(mI, .inl (cL, 1200, .inr (.inl fI))), (mJ, .inl (cI, 4, .inl (k4i j0 j1 j2 j3))), (mS, .inl (cI, 4, .inl (k4i s0 s1 (s2 + (-1)) s3))), (mD, .inl (cL, 256, .inr (.inl fD))), (m0, .inr (8, [.ref mH, .int aM, .long aC, .int mM, .long mQ, .int oV, .int pL, .int lI, .int sW, .int dP, .int sT, .long aT, .int 7, .int iW, .ref mI, .ref mJ, .ref mS, .ref mD, .int iH, .int aE, .int mN, .long sZ, .ref mX, .int tS, .int tA, .int tW, .ref mA, .ref mB, .ref mW, .ref mL, .int lS])), (mH, .inl (cI, 512, .inl u_r_235))] H := hP
                        have hD : va_D A [(mI, .inl (cL, 1200, .inr (.inl fI))), (mJ, .inl (cI, 4, .inl (k4i j0 j1 j2 j3))), (mS, .inl (cI, 4, .inl (k4i s0 s1 (s2 + (-1)) s3))), (mD, .inl (cL, 256, .inr (.inl fD))), (m0, .inr (8, [.ref mH, .int aM, .long aC, .int mM, .long mQ, .int oV, .int pL, .int lI, .int sW, .int dP, .int sT, .long aT, .int 7, .int iW, .ref mI, .ref mJ, .ref mS, .ref mD, .int iH, .int aE, .int mN, .long sZ, .ref mX, .int tS, .int tA, .int tW, .ref mA, .ref mB, .ref mW, .ref mL, .int lS])), (mH, .inl (cI, 512, .inl u_r_235))] := hD
                        try dsimp only at wr_235
                        try simp only [Int32.reduceToInt, Int64.reduceToInt] at wr_235
                        refine lv_goto (tgt := 269) hx hb dX8_copies_243 (by decide) ?_
                        refine lv_iconst (v := 0) hx hb dX8_copies_269 (by decide) ?_
                        refine kIret (u := (pL, dP, 7, iW, u_r_235, fD, fI, j0, j1, j2, j3, s0, s1, (s2 + (-1)), s3)) hx hb hr rfl hlocks hS dX8_copies_270 ?_ (hP.sub [4, 5, 0, 1, 2, 3] rfl) (hD.sub [4, 5, 0, 1, 2, 3] (by decide) rfl)
                        try dsimp only
                        try simp only [Int32.reduceToInt, Int64.reduceToInt, true_or, or_true, true_and, and_true]
                        try rw [← ex_210] at hk8
                        try rw [← ex_222] at hk8
                        repeat' apply And.intro
                        all_goals first | assumption | omega
        · exact absurd (by decide) c_79_203
      · exact absurd (by decide) c_16_202
    · exact absurd c_4_201 (by decide)
  · have hk8 := k_and (x := dP + 1) (m := 255) 8 (by decide) (by decide)
    have hs0 := k_sub (a := j3) (b := 1) (by omega) (by decide)
    simp only [Int32.reduceToInt] at hs0
    have hs1 := k_sub (a := s3) (b := 1) (by omega) (by decide)
    simp only [Int32.reduceToInt] at hs1
    have hs2 := k_addg (a := s3) (b := 1) (by omega) (by decide)
    have hs3 := k_addg (a := s3) (b := (-1)) (by omega) (by decide)
    simp only [Int32.reduceToInt, show (-1 : Int32).toInt = -1 from rfl] at hs2 hs3
    refine lv_aload_n hx hb dX8_copies_0 rfl (lv_at hl 0 rfl) ?_
    refine va_get (D := D) (ci := 8) (v := .int 8) (C := RX8) (T := TX8) (N := 31) hx hb hts iX8_copies_X8 hown hK hP 0 rfl rfl 12 (by decide) (hts (.fieldLink RX8 43 "TapeCalculatorModel" "chosen" "I") (List.mem_of_getElem? (i := 1) rfl)) (fun _ h9 => h9) rfl dX8_copies_1 ?_
    refine lv_if_ne (tgt := 10) hx hb dX8_copies_4 (by decide) (fun c_4_235 => ?_) (fun c_4_235 => ?_)
    · have t_4_235 := c_4_235
      try simp only [kb_eq0, kb_ne0, lg_cmp_lt, lg_cmp_le, lg_cmp_gt, lg_cmp_ge, lg_cmp_eq] at t_4_235
      try simp only [Int32.lt_iff_toInt_lt, Int32.le_iff_toInt_le, ← Int32.toInt_inj, Int64.lt_iff_toInt_lt, Int64.le_iff_toInt_le, ← Int64.toInt_inj, Int32.toInt_toInt64, Int32.reduceToInt, Int64.reduceToInt] at t_4_235
      refine lv_aload_n hx hb dX8_copies_10 rfl (lv_at hl 0 rfl) ?_
      refine va_get (D := D) (ci := 8) (v := .int 8) (C := RX8) (T := TX8) (N := 31) hx hb hts iX8_copies_X8 hown hK hP 0 rfl rfl 12 (by decide) (hts (.fieldLink RX8 43 "TapeCalculatorModel" "chosen" "I") (List.mem_of_getElem? (i := 1) rfl)) (fun _ h9 => h9) rfl dX8_copies_11 ?_
      refine lv_bipush (v := 12) hx hb dX8_copies_14 (by decide) ?_
      refine lv_icmp_le (tgt := 73) hx hb dX8_copies_16 (by decide) (fun c_16_236 => ?_) (fun c_16_236 => ?_)
      · have t_16_236 := c_16_236
        try simp only [kb_eq0, kb_ne0, lg_cmp_lt, lg_cmp_le, lg_cmp_gt, lg_cmp_ge, lg_cmp_eq] at t_16_236
        try simp only [Int32.lt_iff_toInt_lt, Int32.le_iff_toInt_le, ← Int32.toInt_inj, Int64.lt_iff_toInt_lt, Int64.le_iff_toInt_le, ← Int64.toInt_inj, Int32.toInt_toInt64, Int32.reduceToInt, Int64.reduceToInt] at t_16_236
        refine lv_aload_n hx hb dX8_copies_73 rfl (lv_at hl 0 rfl) ?_
        refine va_get (D := D) (ci := 8) (v := .int 8) (C := RX8) (T := TX8) (N := 31) hx hb hts iX8_copies_X8 hown hK hP 0 rfl rfl 12 (by decide) (hts (.fieldLink RX8 43 "TapeCalculatorModel" "chosen" "I") (List.mem_of_getElem? (i := 1) rfl)) (fun _ h9 => h9) rfl dX8_copies_74 ?_
        refine lv_bipush (v := 8) hx hb dX8_copies_77 (by decide) ?_
        refine lv_icmp_le (tgt := 109) hx hb dX8_copies_79 (by decide) (fun c_79_237 => ?_) (fun c_79_237 => ?_)
        · have t_79_237 := c_79_237
          try simp only [kb_eq0, kb_ne0, lg_cmp_lt, lg_cmp_le, lg_cmp_gt, lg_cmp_ge, lg_cmp_eq] at t_79_237
          try simp only [Int32.lt_iff_toInt_lt, Int32.le_iff_toInt_le, ← Int32.toInt_inj, Int64.lt_iff_toInt_lt, Int64.le_iff_toInt_le, ← Int64.toInt_inj, Int32.toInt_toInt64, Int32.reduceToInt, Int64.reduceToInt] at t_79_237
          refine lv_aload_n hx hb dX8_copies_109 rfl (lv_at hl 0 rfl) ?_
          refine va_get (D := D) (ci := 8) (v := .int 8) (C := RX8) (T := TX8) (N := 31) hx hb hts iX8_copies_X8 hown hK hP 0 rfl rfl 12 (by decide) (hts (.fieldLink RX8 43 "TapeCalculatorModel" "chosen" "I") (List.mem_of_getElem? (i := 1) rfl)) (fun _ h9 => h9) rfl dX8_copies_110 ?_
          refine lv_iconst (v := 4) hx hb dX8_copies_113 (by decide) ?_
          refine lv_icmp_le (tgt := 121) hx hb dX8_copies_114 (by decide) (fun c_114_238 => ?_) (fun c_114_238 => ?_)
          · exact absurd c_114_238 (by decide)
          · have t_114_238 := c_114_238
            try simp only [kb_eq0, kb_ne0, lg_cmp_lt, lg_cmp_le, lg_cmp_gt, lg_cmp_ge, lg_cmp_eq] at t_114_238
            try simp only [Int32.lt_iff_toInt_lt, Int32.le_iff_toInt_le, ← Int32.toInt_inj, Int64.lt_iff_toInt_lt, Int64.le_iff_toInt_le, ← Int64.toInt_inj, Int32.toInt_toInt64, Int32.reduceToInt, Int64.reduceToInt] at t_114_238
            refine lv_iconst (v := 1) hx hb dX8_copies_117 (by decide) ?_
            refine lv_goto (tgt := 122) hx hb dX8_copies_118 (by decide) ?_
            refine lv_istore_n (lv' := [(1, .int 1), (0, .ref m0)]) hx hb dX8_copies_122 rfl hl (by decide) rfl (fun ls hl => ?_)
            refine lv_iload_n hx hb dX8_copies_123 rfl (lv_at hl 0 rfl) ?_
            refine lv_if_eq (tgt := 136) hx hb dX8_copies_124 (by decide) (fun c_124_239 => ?_) (fun c_124_239 => ?_)
            · exact absurd c_124_239 (by decide)
            · have t_124_239 := c_124_239
              try simp only [kb_eq0, kb_ne0, lg_cmp_lt, lg_cmp_le, lg_cmp_gt, lg_cmp_ge, lg_cmp_eq] at t_124_239
              try simp only [Int32.lt_iff_toInt_lt, Int32.le_iff_toInt_le, ← Int32.toInt_inj, Int64.lt_iff_toInt_lt, Int64.le_iff_toInt_le, ← Int64.toInt_inj, Int32.toInt_toInt64, Int32.reduceToInt, Int64.reduceToInt] at t_124_239
              refine lv_aload_n hx hb dX8_copies_127 rfl (lv_at hl 1 rfl) ?_
              refine va_get (D := D) (ci := 8) (v := .int 8) (C := RX8) (T := TX8) (N := 31) hx hb hts iX8_copies_X8 hown hK hP 0 rfl rfl 12 (by decide) (hts (.fieldLink RX8 43 "TapeCalculatorModel" "chosen" "I") (List.mem_of_getElem? (i := 1) rfl)) (fun _ h9 => h9) rfl dX8_copies_128 ?_
              refine lv_iconst (v := 5) hx hb dX8_copies_131 (by decide) ?_
              refine lv_isub hx hb dX8_copies_132 ?_
              refine lv_topi (fun x_241 ex_241 => ?_)
              obtain rfl : x_241 = 3 := ex_241.trans (by decide)
              refine lv_goto (tgt := 142) hx hb dX8_copies_133 (by decide) ?_
              refine lv_istore_n (lv' := [(2, .int 3), (1, .int 1), (0, .ref m0)]) hx hb dX8_copies_142 rfl hl (by decide) rfl (fun ls hl => ?_)
              refine lv_iload_n hx hb dX8_copies_143 rfl (lv_at hl 1 rfl) ?_
              refine lv_if_eq (tgt := 158) hx hb dX8_copies_144 (by decide) (fun c_144_241 => ?_) (fun c_144_241 => ?_)
              · exact absurd c_144_241 (by decide)
              · have t_144_241 := c_144_241
                try simp only [kb_eq0, kb_ne0, lg_cmp_lt, lg_cmp_le, lg_cmp_gt, lg_cmp_ge, lg_cmp_eq] at t_144_241
                try simp only [Int32.lt_iff_toInt_lt, Int32.le_iff_toInt_le, ← Int32.toInt_inj, Int64.lt_iff_toInt_lt, Int64.le_iff_toInt_le, ← Int64.toInt_inj, Int32.toInt_toInt64, Int32.reduceToInt, Int64.reduceToInt] at t_144_241
                refine lv_aload_n hx hb dX8_copies_147 rfl (lv_at hl 2 rfl) ?_
                refine va_get (D := D) (ci := 8) (v := .ref mS) (C := RX8) (T := TX8) (N := 31) hx hb hts iX8_copies_X8 hown hK hP 0 rfl rfl 16 (by decide) (hts (.fieldLink RX8 20 "TapeCalculatorModel" "stands" "[I") (List.mem_of_getElem? (i := 5) rfl)) (fun _ h9 => h9) rfl dX8_copies_148 ?_
                refine lv_iload_n hx hb dX8_copies_151 rfl (lv_at hl 0 rfl) ?_
                refine va_iald hx hb hK hP 4 0 rfl rfl (vp_in_iff.mpr (by decide)) dX8_copies_152 ?_
                refine lv_topi (fun x_243 ex_243 => ?_)
                obtain rfl : s3 = x_243 := ex_243.symm
                refine lv_iconst (v := 1) hx hb dX8_copies_153 (by decide) ?_
                refine lv_isub hx hb dX8_copies_154 ?_
                refine lv_goto (tgt := 164) hx hb dX8_copies_155 (by decide) ?_
                refine lv_topi (fun x_244 ex_244 => ?_)
                refine lv_istore_n (lv' := [(3, .int x_244), (2, .int 3), (1, .int 1), (0, .ref m0)]) hx hb dX8_copies_164 rfl hl (by decide) rfl (fun ls hl => ?_)
                rw [← ex_244] at hs1
                refine lv_iload_n hx hb dX8_copies_165 rfl (lv_at hl 0 rfl) ?_
                refine lv_i2l hx hb dX8_copies_166 rfl ?_
                refine lv_lconst (v := 0) hx hb dX8_copies_167 (by decide) ?_
                refine lv_aload_n hx hb dX8_copies_168 rfl (lv_at hl 3 rfl) ?_
                refine va_get (D := D) (ci := 8) (v := .ref mJ) (C := RX8) (T := TX8) (N := 31) hx hb hts iX8_copies_X8 hown hK hP 0 rfl rfl 15 (by decide) (hts (.fieldLink RX8 17 "TapeCalculatorModel" "items" "[I") (List.mem_of_getElem? (i := 6) rfl)) (fun _ h9 => h9) rfl dX8_copies_169 ?_
                refine lv_iload_n hx hb dX8_copies_172 rfl (lv_at hl 1 rfl) ?_
                refine va_iald hx hb hK hP 3 0 rfl rfl (vp_in_iff.mpr (by decide)) dX8_copies_173 ?_
                refine lv_topi (fun x_245 ex_245 => ?_)
                obtain rfl : j3 = x_245 := ex_245.symm
                refine lv_iconst (v := 1) hx hb dX8_copies_174 (by decide) ?_
                refine lv_isub hx hb dX8_copies_175 ?_
                refine lv_i2l hx hb dX8_copies_176 rfl ?_
                refine kCallI (wr := [(m0, .inr (8, [.ref mH, .int aM, .long aC, .int mM, .long mQ, .int oV, .int pL, .int lI, .int sW, .int dP, .int sT, .long aT, .int 8, .int iW, .ref mI, .ref mJ, .ref mS, .ref mD, .int iH, .int aE, .int mN, .long sZ, .ref mX, .int tS, .int tA, .int tW, .ref mA, .ref mB, .ref mW, .ref mL, .int lS])), (mH, .inl (cI, 512, .inl fH)), (mI, .inl (cL, 1200, .inr (.inl fI))), (mJ, .inl (cI, 4, .inl (k4i j0 j1 j2 j3))), (mS, .inl (cI, 4, .inl (k4i s0 s1 s2 s3))), (mD, .inl (cL, 256, .inr (.inl fD)))]) (va_runS (As := [.long x_244.toInt64, .long 0, .long (j3 - 1).toInt64]) (rest := []) ⟨hx, hb, hml, hown, hts⟩ (q_in l D cI cL cB cZ cT _ (x_244.toInt64) 0 (j3 - 1).toInt64) (va_cwS 3 hts gX8_copies_X8_in rfl rfl rfl (by decide +kernel) ⟨Nat.le_of_ble_eq_true rfl, Nat.le_of_ble_eq_true rfl⟩) (kPreS hG hP hD [] rfl (by decide)) rfl rfl hl.1 rfl (lv_room (Nat.le_of_ble_eq_true rfl)) dX8_copies_177 ⟨Nat.le_of_ble_eq_true rfl, Nat.le_of_ble_eq_true rfl⟩) hA hP hD hS [] [0, 1, 2, 3, 4, 5] rfl rfl (by decide) (by decide) (fun r_246 u_r_246 H locs wr_246 hP hD hS => ?_)
                have hP : va_P D vwCl [(m0, .inr (8, [.ref mH, .int aM, .long aC, .int mM, .long mQ, .int oV, .int pL, .int lI, .int sW, .int dP, .int sT, .long aT, .int 8, .int iW, .ref mI, .ref mJ, .ref mS, .ref mD, .int iH, .int aE, .int mN, .long sZ, .ref mX, .int tS, .int tA, .int tW, .ref mA, .ref mB, .ref mW, .ref mL, .int lS])), (mH, .inl (cI, 512, .inl fH)), (mI, .inl (cL, 1200, .inr (.inl fI))), (mJ, .inl (cI, 4, .inl (k4i j0 j1 j2 j3))), (mS, .inl (cI, 4, .inl (k4i s0 s1 s2 s3))), (mD, .inl (cL, 256, .inr (.inl fD)))] H := hP
                have hD : va_D A [(m0, .inr (8, [.ref mH, .int aM, .long aC, .int mM, .long mQ, .int oV, .int pL, .int lI, .int sW, .int dP, .int sT, .long aT, .int 8, .int iW, .ref mI, .ref mJ, .ref mS, .ref mD, .int iH, .int aE, .int mN, .long sZ, .ref mX, .int tS, .int tA, .int tW, .ref mA, .ref mB, .ref mW, .ref mL, .int lS])), (mH, .inl (cI, 512, .inl fH)), (mI, .inl (cL, 1200, .inr (.inl fI))), (mJ, .inl (cI, 4, .inl (k4i j0 j1 j2 j3))), (mS, .inl (cI, 4, .inl (k4i s0 s1 s2 s3))), (mD, .inl (cL, 256, .inr (.inl fD)))] := hD
                try dsimp only at wr_246
                subst wr_246
                refine lv_if_eq (tgt := 198) hx hb dX8_copies_180 (by decide) (fun c_180_246 => ?_) (fun c_180_246 => ?_)
                · have t_180_246 := c_180_246
                  try simp only [kb_eq0, kb_ne0, lg_cmp_lt, lg_cmp_le, lg_cmp_gt, lg_cmp_ge, lg_cmp_eq] at t_180_246
                  try simp only [Int32.lt_iff_toInt_lt, Int32.le_iff_toInt_le, ← Int32.toInt_inj, Int64.lt_iff_toInt_lt, Int64.le_iff_toInt_le, ← Int64.toInt_inj, Int32.toInt_toInt64, Int32.reduceToInt, Int64.reduceToInt] at t_180_246
                  refine lv_ldc2 (v := (-9)) hx hb hown (hts (.constantLong RX8 107 (-9)) (List.mem_of_getElem? (i := 8) rfl)) dX8_copies_198 ?_
                  refine lv_lstore (lv' := [(4, .long (-9)), (3, .int x_244), (2, .int 3), (1, .int 1), (0, .ref m0)]) hx hb dX8_copies_201 hl (by decide) rfl (fun ls hl => ?_)
                  refine lv_lload hx hb dX8_copies_203 (lv_at hl 0 rfl) ?_
                  refine lv_ldc2 (v := (-9)) hx hb hown (hts (.constantLong RX8 107 (-9)) (List.mem_of_getElem? (i := 8) rfl)) dX8_copies_205 ?_
                  refine W.lcmp hx hb dX8_copies_208 ?_
                  refine lv_topi (fun x_248 ex_248 => ?_)
                  obtain rfl : x_248 = 0 := ex_248.trans (by decide)
                  refine lv_if_eq (tgt := 230) hx hb dX8_copies_209 (by decide) (fun c_209_248 => ?_) (fun c_209_248 => ?_)
                  · have t_209_248 := c_209_248
                    try simp only [kb_eq0, kb_ne0, lg_cmp_lt, lg_cmp_le, lg_cmp_gt, lg_cmp_ge, lg_cmp_eq] at t_209_248
                    try simp only [Int32.lt_iff_toInt_lt, Int32.le_iff_toInt_le, ← Int32.toInt_inj, Int64.lt_iff_toInt_lt, Int64.le_iff_toInt_le, ← Int64.toInt_inj, Int32.toInt_toInt64, Int32.reduceToInt, Int64.reduceToInt] at t_209_248
                    refine lv_lload hx hb dX8_copies_230 (lv_at hl 0 rfl) ?_
                    refine lv_lconst (v := 0) hx hb dX8_copies_232 (by decide) ?_
                    refine W.lcmp hx hb dX8_copies_233 ?_
                    refine lv_topi (fun x_250 ex_250 => ?_)
                    obtain rfl : x_250 = (-1) := ex_250.trans (by decide)
                    refine lv_if_lt (tgt := 246) hx hb dX8_copies_234 (by decide) (fun c_234_250 => ?_) (fun c_234_250 => ?_)
                    · have t_234_250 := c_234_250
                      try simp only [kb_eq0, kb_ne0, lg_cmp_lt, lg_cmp_le, lg_cmp_gt, lg_cmp_ge, lg_cmp_eq] at t_234_250
                      try simp only [Int32.lt_iff_toInt_lt, Int32.le_iff_toInt_le, ← Int32.toInt_inj, Int64.lt_iff_toInt_lt, Int64.le_iff_toInt_le, ← Int64.toInt_inj, Int32.toInt_toInt64, Int32.reduceToInt, Int64.reduceToInt] at t_234_250
                      refine lv_aload_n hx hb dX8_copies_246 rfl (lv_at hl 4 rfl) ?_
                      refine lv_iconst (v := 0) hx hb dX8_copies_247 (by decide) ?_
                      refine va_put (D := D) (ci := 8) (v := .int 0) (ty := .int) (C := RX8) (T := TX8) (N := 31) hx hb hts iX8_copies_X8 tyX8 tyX8_ok nmX8 hown hK hP hD hS 0 rfl rfl 12 (by decide) (hts (.fieldLink RX8 43 "TapeCalculatorModel" "chosen" "I") (List.mem_of_getElem? (i := 1) rfl)) (fun _ h9 => h9) rfl (by decide +kernel) rfl rfl (Nat.le_of_ble_eq_true rfl) dX8_copies_248 (fun H locs hP hD hS => ?_)
                      have hP : va_P D vwCl [(m0, .inr (8, [.ref mH, .int aM, .long aC, .int mM, .long mQ, .int oV, .int pL, .int lI, .int sW, .int dP, .int sT, .long aT, .int 0, .int iW, .ref mI, .ref mJ, .ref mS, .ref mD, .int iH, .int aE, .int mN, .long sZ, .ref mX, .int tS, .int tA, .int tW, .ref mA, .ref mB, .ref mW, .ref mL, .int lS])), (mH, .inl (cI, 512, .inl fH)), (mI, .inl (cL, 1200, .inr (.inl fI))), (mJ, .inl (cI, 4, .inl (k4i j0 j1 j2 j3))), (mS, .inl (cI, 4, .inl (k4i s0 s1 s2 s3))), (mD, .inl (cL, 256, .inr (.inl fD)))] H := hP
                      have hD : va_D A [(m0, .inr (8, [.ref mH, .int aM, .long aC, .int mM, .long mQ, .int oV, .int pL, .int lI, .int sW, .int dP, .int sT, .long aT, .int 0, .int iW, .ref mI, .ref mJ, .ref mS, .ref mD, .int iH, .int aE, .int mN, .long sZ, .ref mX, .int tS, .int tA, .int tW, .ref mA, .ref mB, .ref mW, .ref mL, .int lS])), (mH, .inl (cI, 512, .inl fH)), (mI, .inl (cL, 1200, .inr (.inl fI))), (mJ, .inl (cI, 4, .inl (k4i j0 j1 j2 j3))), (mS, .inl (cI, 4, .inl (k4i s0 s1 s2 s3))), (mD, .inl (cL, 256, .inr (.inl fD)))] := hD
                      refine lv_aload_n hx hb dX8_copies_251 rfl (lv_at hl 4 rfl) ?_
                      refine lv_lload hx hb dX8_copies_252 (lv_at hl 0 rfl) ?_
                      refine lv_ldc2 (v := (-2)) hx hb hown (hts (.constantLong RX8 111 (-2)) (List.mem_of_getElem? (i := 9) rfl)) dX8_copies_254 ?_
                      refine W.lcmp hx hb dX8_copies_257 ?_
                      refine lv_topi (fun x_252 ex_252 => ?_)
                      obtain rfl : x_252 = (-1) := ex_252.trans (by decide)
                      refine lv_if_ne (tgt := 265) hx hb dX8_copies_258 (by decide) (fun c_258_252 => ?_) (fun c_258_252 => ?_)
                      · have t_258_252 := c_258_252
                        try simp only [kb_eq0, kb_ne0, lg_cmp_lt, lg_cmp_le, lg_cmp_gt, lg_cmp_ge, lg_cmp_eq] at t_258_252
                        try simp only [Int32.lt_iff_toInt_lt, Int32.le_iff_toInt_le, ← Int32.toInt_inj, Int64.lt_iff_toInt_lt, Int64.le_iff_toInt_le, ← Int64.toInt_inj, Int32.toInt_toInt64, Int32.reduceToInt, Int64.reduceToInt] at t_258_252
                        refine lv_iconst (v := 1) hx hb dX8_copies_265 (by decide) ?_
                        refine kCallVd (wr := [(mH, .inl (cI, 512, .inl fH)), (mI, .inl (cL, 1200, .inr (.inl fI))), (mJ, .inl (cI, 4, .inl (k4i j0 j1 j2 j3))), (mS, .inl (cI, 4, .inl (k4i s0 s1 s2 s3))), (mD, .inl (cL, 256, .inr (.inl fD)))]) (va_runV (As := [.int 1]) (rest := []) ⟨hx, hb, hml, hown, hts⟩ (q_go l D cI cL cB cZ cT _ m0 mH mI mJ mS mD mX mA mB mW mL aM aC mM mQ oV pL lI sW dP sT aT 0 iW iH aE mN sZ tS tA tW lS 1) (cwV 1 hts gX8_copies_X8_go rfl rfl rfl (by decide +kernel) ⟨Nat.le_of_ble_eq_true rfl, Nat.le_of_ble_eq_true rfl⟩) (kPreV hG hP hD [0] rfl (by decide) 0 8 rfl rfl rfl) rfl rfl hl.1 rfl (lv_room (Nat.le_of_ble_eq_true rfl)) dX8_copies_266 ⟨Nat.le_of_ble_eq_true rfl, Nat.le_of_ble_eq_true rfl⟩) hA hP hD hS [0] [1, 2, 3, 4, 5] rfl rfl (by decide) (by decide) (fun _ u_r_254 H locs wr_254 hP hD hS => ?_)
                        have hP : va_P D vwCl [(mH, .inl (cI, 512, .inl fH)), (mI, .inl (cL, 1200, .inr (.inl fI))), (mJ, .inl (cI, 4, .inl (k4i j0 j1 j2 j3))), (mS, .inl (cI, 4, .inl (k4i s0 s1 s2 s3))), (mD, .inl (cL, 256, .inr (.inl fD))), (m0, .inr (8, [.ref mH, .int aM, .long aC, .int mM, .long mQ, .int oV, .int u_r_254, .int lI, .int sW, .int dP, .int sT, .long aT, .int 0, .int iW, .ref mI, .ref mJ, .ref mS, .ref mD, .int iH, .int aE, .int mN, .long sZ, .ref mX, .int tS, .int tA, .int tW, .ref mA, .ref mB, .ref mW, .ref mL, .int lS]))] H := hP
                        have hD : va_D A [(mH, .inl (cI, 512, .inl fH)), (mI, .inl (cL, 1200, .inr (.inl fI))), (mJ, .inl (cI, 4, .inl (k4i j0 j1 j2 j3))), (mS, .inl (cI, 4, .inl (k4i s0 s1 s2 s3))), (mD, .inl (cL, 256, .inr (.inl fD))), (m0, .inr (8, [.ref mH, .int aM, .long aC, .int mM, .long mQ, .int oV, .int u_r_254, .int lI, .int sW, .int dP, .int sT, .long aT, .int 0, .int iW, .ref mI, .ref mJ, .ref mS, .ref mD, .int iH, .int aE, .int mN, .long sZ, .ref mX, .int tS, .int tA, .int tW, .ref mA, .ref mB, .ref mW, .ref mL, .int lS]))] := hD
                        try dsimp only at wr_254
                        try simp only [Int32.reduceToInt, Int64.reduceToInt] at wr_254
                        refine lv_iconst (v := 0) hx hb dX8_copies_269 (by decide) ?_
                        refine kIret (u := (u_r_254, dP, 0, iW, fH, fD, fI, j0, j1, j2, j3, s0, s1, s2, s3)) hx hb hr rfl hlocks hS dX8_copies_270 ?_ (hP.sub [5, 0, 1, 2, 3, 4] rfl) (hD.sub [5, 0, 1, 2, 3, 4] (by decide) rfl)
                        try dsimp only
                        try simp only [Int32.reduceToInt, Int64.reduceToInt, true_or, or_true, true_and, and_true]
                        try rw [← ex_244] at hk8
                        repeat' apply And.intro
                        all_goals first | assumption | omega
                      · exact absurd c_258_252 (by decide)
                    · exact absurd (by decide) c_234_250
                  · exact absurd (by decide) c_209_248
                · have t_180_246 := c_180_246
                  try simp only [kb_eq0, kb_ne0, lg_cmp_lt, lg_cmp_le, lg_cmp_gt, lg_cmp_ge, lg_cmp_eq] at t_180_246
                  try simp only [Int32.lt_iff_toInt_lt, Int32.le_iff_toInt_le, ← Int32.toInt_inj, Int64.lt_iff_toInt_lt, Int64.le_iff_toInt_le, ← Int64.toInt_inj, Int32.toInt_toInt64, Int32.reduceToInt, Int64.reduceToInt] at t_180_246
                  refine lv_aload_n hx hb dX8_copies_183 rfl (lv_at hl 3 rfl) ?_
                  refine va_get (D := D) (ci := 8) (v := .ref mI) (C := RX8) (T := TX8) (N := 31) hx hb hts iX8_copies_X8 hown hK hP 0 rfl rfl 14 (by decide) (hts (.fieldLink RX8 13 "TapeCalculatorModel" "item" "[J") (List.mem_of_getElem? (i := 7) rfl)) (fun _ h9 => h9) rfl dX8_copies_184 ?_
                  refine lv_sipush (v := 300) hx hb dX8_copies_187 (by decide) ?_
                  refine lv_iload_n hx hb dX8_copies_190 rfl (lv_at hl 1 rfl) ?_
                  refine lv_imul hx hb dX8_copies_191 ?_
                  refine lv_topi (fun x_255 ex_255 => ?_)
                  obtain rfl : x_255 = 900 := ex_255.trans (by decide)
                  refine lv_iload_n hx hb dX8_copies_192 rfl (lv_at hl 0 rfl) ?_
                  refine lv_iadd hx hb dX8_copies_193 ?_
                  refine va_lald hx hb hK hP 2 1 rfl rfl (vp_in_iff.mpr (by have hx9 := k_addg (a := 900) (b := x_244) (by decide) (by omega); simp only [Int32.reduceToInt] at hx9; omega)) dX8_copies_194 ?_
                  refine lv_goto (tgt := 201) hx hb dX8_copies_195 (by decide) ?_
                  refine lv_topl (fun x_256 ex_256 => ?_)
                  refine lv_lstore (lv' := [(4, .long x_256), (3, .int x_244), (2, .int 3), (1, .int 1), (0, .ref m0)]) hx hb dX8_copies_201 hl (by decide) rfl (fun ls hl => ?_)
                  refine lv_lload hx hb dX8_copies_203 (lv_at hl 0 rfl) ?_
                  refine lv_ldc2 (v := (-9)) hx hb hown (hts (.constantLong RX8 107 (-9)) (List.mem_of_getElem? (i := 8) rfl)) dX8_copies_205 ?_
                  refine W.lcmp hx hb dX8_copies_208 ?_
                  refine lv_if_eq (tgt := 230) hx hb dX8_copies_209 (by decide) (fun c_209_256 => ?_) (fun c_209_256 => ?_)
                  · have t_209_256 := c_209_256
                    try simp only [kb_eq0, kb_ne0, lg_cmp_lt, lg_cmp_le, lg_cmp_gt, lg_cmp_ge, lg_cmp_eq] at t_209_256
                    try simp only [Int32.lt_iff_toInt_lt, Int32.le_iff_toInt_le, ← Int32.toInt_inj, Int64.lt_iff_toInt_lt, Int64.le_iff_toInt_le, ← Int64.toInt_inj, Int32.toInt_toInt64, Int32.reduceToInt, Int64.reduceToInt] at t_209_256
                    refine lv_lload hx hb dX8_copies_230 (lv_at hl 0 rfl) ?_
                    refine lv_lconst (v := 0) hx hb dX8_copies_232 (by decide) ?_
                    refine W.lcmp hx hb dX8_copies_233 ?_
                    refine lv_if_lt (tgt := 246) hx hb dX8_copies_234 (by decide) (fun c_234_257 => ?_) (fun c_234_257 => ?_)
                    · have t_234_257 := c_234_257
                      try simp only [kb_eq0, kb_ne0, lg_cmp_lt, lg_cmp_le, lg_cmp_gt, lg_cmp_ge, lg_cmp_eq] at t_234_257
                      try simp only [Int32.lt_iff_toInt_lt, Int32.le_iff_toInt_le, ← Int32.toInt_inj, Int64.lt_iff_toInt_lt, Int64.le_iff_toInt_le, ← Int64.toInt_inj, Int32.toInt_toInt64, Int32.reduceToInt, Int64.reduceToInt] at t_234_257
                      refine lv_aload_n hx hb dX8_copies_246 rfl (lv_at hl 4 rfl) ?_
                      refine lv_iconst (v := 0) hx hb dX8_copies_247 (by decide) ?_
                      refine va_put (D := D) (ci := 8) (v := .int 0) (ty := .int) (C := RX8) (T := TX8) (N := 31) hx hb hts iX8_copies_X8 tyX8 tyX8_ok nmX8 hown hK hP hD hS 0 rfl rfl 12 (by decide) (hts (.fieldLink RX8 43 "TapeCalculatorModel" "chosen" "I") (List.mem_of_getElem? (i := 1) rfl)) (fun _ h9 => h9) rfl (by decide +kernel) rfl rfl (Nat.le_of_ble_eq_true rfl) dX8_copies_248 (fun H locs hP hD hS => ?_)
                      have hP : va_P D vwCl [(m0, .inr (8, [.ref mH, .int aM, .long aC, .int mM, .long mQ, .int oV, .int pL, .int lI, .int sW, .int dP, .int sT, .long aT, .int 0, .int iW, .ref mI, .ref mJ, .ref mS, .ref mD, .int iH, .int aE, .int mN, .long sZ, .ref mX, .int tS, .int tA, .int tW, .ref mA, .ref mB, .ref mW, .ref mL, .int lS])), (mH, .inl (cI, 512, .inl fH)), (mI, .inl (cL, 1200, .inr (.inl fI))), (mJ, .inl (cI, 4, .inl (k4i j0 j1 j2 j3))), (mS, .inl (cI, 4, .inl (k4i s0 s1 s2 s3))), (mD, .inl (cL, 256, .inr (.inl fD)))] H := hP
                      have hD : va_D A [(m0, .inr (8, [.ref mH, .int aM, .long aC, .int mM, .long mQ, .int oV, .int pL, .int lI, .int sW, .int dP, .int sT, .long aT, .int 0, .int iW, .ref mI, .ref mJ, .ref mS, .ref mD, .int iH, .int aE, .int mN, .long sZ, .ref mX, .int tS, .int tA, .int tW, .ref mA, .ref mB, .ref mW, .ref mL, .int lS])), (mH, .inl (cI, 512, .inl fH)), (mI, .inl (cL, 1200, .inr (.inl fI))), (mJ, .inl (cI, 4, .inl (k4i j0 j1 j2 j3))), (mS, .inl (cI, 4, .inl (k4i s0 s1 s2 s3))), (mD, .inl (cL, 256, .inr (.inl fD)))] := hD
                      refine lv_aload_n hx hb dX8_copies_251 rfl (lv_at hl 4 rfl) ?_
                      refine lv_lload hx hb dX8_copies_252 (lv_at hl 0 rfl) ?_
                      refine lv_ldc2 (v := (-2)) hx hb hown (hts (.constantLong RX8 111 (-2)) (List.mem_of_getElem? (i := 9) rfl)) dX8_copies_254 ?_
                      refine W.lcmp hx hb dX8_copies_257 ?_
                      refine lv_if_ne (tgt := 265) hx hb dX8_copies_258 (by decide) (fun c_258_258 => ?_) (fun c_258_258 => ?_)
                      · have t_258_258 := c_258_258
                        try simp only [kb_eq0, kb_ne0, lg_cmp_lt, lg_cmp_le, lg_cmp_gt, lg_cmp_ge, lg_cmp_eq] at t_258_258
                        try simp only [Int32.lt_iff_toInt_lt, Int32.le_iff_toInt_le, ← Int32.toInt_inj, Int64.lt_iff_toInt_lt, Int64.le_iff_toInt_le, ← Int64.toInt_inj, Int32.toInt_toInt64, Int32.reduceToInt, Int64.reduceToInt] at t_258_258
                        refine lv_iconst (v := 1) hx hb dX8_copies_265 (by decide) ?_
                        refine kCallVd (wr := [(mH, .inl (cI, 512, .inl fH)), (mI, .inl (cL, 1200, .inr (.inl fI))), (mJ, .inl (cI, 4, .inl (k4i j0 j1 j2 j3))), (mS, .inl (cI, 4, .inl (k4i s0 s1 s2 s3))), (mD, .inl (cL, 256, .inr (.inl fD)))]) (va_runV (As := [.int 1]) (rest := []) ⟨hx, hb, hml, hown, hts⟩ (q_go l D cI cL cB cZ cT _ m0 mH mI mJ mS mD mX mA mB mW mL aM aC mM mQ oV pL lI sW dP sT aT 0 iW iH aE mN sZ tS tA tW lS 1) (cwV 1 hts gX8_copies_X8_go rfl rfl rfl (by decide +kernel) ⟨Nat.le_of_ble_eq_true rfl, Nat.le_of_ble_eq_true rfl⟩) (kPreV hG hP hD [0] rfl (by decide) 0 8 rfl rfl rfl) rfl rfl hl.1 rfl (lv_room (Nat.le_of_ble_eq_true rfl)) dX8_copies_266 ⟨Nat.le_of_ble_eq_true rfl, Nat.le_of_ble_eq_true rfl⟩) hA hP hD hS [0] [1, 2, 3, 4, 5] rfl rfl (by decide) (by decide) (fun _ u_r_260 H locs wr_260 hP hD hS => ?_)
                        have hP : va_P D vwCl [(mH, .inl (cI, 512, .inl fH)), (mI, .inl (cL, 1200, .inr (.inl fI))), (mJ, .inl (cI, 4, .inl (k4i j0 j1 j2 j3))), (mS, .inl (cI, 4, .inl (k4i s0 s1 s2 s3))), (mD, .inl (cL, 256, .inr (.inl fD))), (m0, .inr (8, [.ref mH, .int aM, .long aC, .int mM, .long mQ, .int oV, .int u_r_260, .int lI, .int sW, .int dP, .int sT, .long aT, .int 0, .int iW, .ref mI, .ref mJ, .ref mS, .ref mD, .int iH, .int aE, .int mN, .long sZ, .ref mX, .int tS, .int tA, .int tW, .ref mA, .ref mB, .ref mW, .ref mL, .int lS]))] H := hP
                        have hD : va_D A [(mH, .inl (cI, 512, .inl fH)), (mI, .inl (cL, 1200, .inr (.inl fI))), (mJ, .inl (cI, 4, .inl (k4i j0 j1 j2 j3))), (mS, .inl (cI, 4, .inl (k4i s0 s1 s2 s3))), (mD, .inl (cL, 256, .inr (.inl fD))), (m0, .inr (8, [.ref mH, .int aM, .long aC, .int mM, .long mQ, .int oV, .int u_r_260, .int lI, .int sW, .int dP, .int sT, .long aT, .int 0, .int iW, .ref mI, .ref mJ, .ref mS, .ref mD, .int iH, .int aE, .int mN, .long sZ, .ref mX, .int tS, .int tA, .int tW, .ref mA, .ref mB, .ref mW, .ref mL, .int lS]))] := hD
                        try dsimp only at wr_260
                        try simp only [Int32.reduceToInt, Int64.reduceToInt] at wr_260
                        refine lv_iconst (v := 0) hx hb dX8_copies_269 (by decide) ?_
                        refine kIret (u := (u_r_260, dP, 0, iW, fH, fD, fI, j0, j1, j2, j3, s0, s1, s2, s3)) hx hb hr rfl hlocks hS dX8_copies_270 ?_ (hP.sub [5, 0, 1, 2, 3, 4] rfl) (hD.sub [5, 0, 1, 2, 3, 4] (by decide) rfl)
                        try dsimp only
                        try simp only [Int32.reduceToInt, Int64.reduceToInt, true_or, or_true, true_and, and_true]
                        try rw [← ex_244] at hk8
                        try rw [← ex_256] at hk8
                        repeat' apply And.intro
                        all_goals first | assumption | omega
                      · have t_258_258 := c_258_258
                        try simp only [kb_eq0, kb_ne0, lg_cmp_lt, lg_cmp_le, lg_cmp_gt, lg_cmp_ge, lg_cmp_eq] at t_258_258
                        try simp only [Int32.lt_iff_toInt_lt, Int32.le_iff_toInt_le, ← Int32.toInt_inj, Int64.lt_iff_toInt_lt, Int64.le_iff_toInt_le, ← Int64.toInt_inj, Int32.toInt_toInt64, Int32.reduceToInt, Int64.reduceToInt] at t_258_258
                        refine lv_iconst (v := 2) hx hb dX8_copies_261 (by decide) ?_
                        refine lv_goto (tgt := 266) hx hb dX8_copies_262 (by decide) ?_
                        refine kCallVd (wr := [(mH, .inl (cI, 512, .inl fH)), (mI, .inl (cL, 1200, .inr (.inl fI))), (mJ, .inl (cI, 4, .inl (k4i j0 j1 j2 j3))), (mS, .inl (cI, 4, .inl (k4i s0 s1 s2 s3))), (mD, .inl (cL, 256, .inr (.inl fD)))]) (va_runV (As := [.int 2]) (rest := []) ⟨hx, hb, hml, hown, hts⟩ (q_go l D cI cL cB cZ cT _ m0 mH mI mJ mS mD mX mA mB mW mL aM aC mM mQ oV pL lI sW dP sT aT 0 iW iH aE mN sZ tS tA tW lS 2) (cwV 1 hts gX8_copies_X8_go rfl rfl rfl (by decide +kernel) ⟨Nat.le_of_ble_eq_true rfl, Nat.le_of_ble_eq_true rfl⟩) (kPreV hG hP hD [0] rfl (by decide) 0 8 rfl rfl rfl) rfl rfl hl.1 rfl (lv_room (Nat.le_of_ble_eq_true rfl)) dX8_copies_266 ⟨Nat.le_of_ble_eq_true rfl, Nat.le_of_ble_eq_true rfl⟩) hA hP hD hS [0] [1, 2, 3, 4, 5] rfl rfl (by decide) (by decide) (fun _ u_r_261 H locs wr_261 hP hD hS => ?_)
                        have hP : va_P D vwCl [(mH, .inl (cI, 512, .inl fH)), (mI, .inl (cL, 1200, .inr (.inl fI))), (mJ, .inl (cI, 4, .inl (k4i j0 j1 j2 j3))), (mS, .inl (cI, 4, .inl (k4i s0 s1 s2 s3))), (mD, .inl (cL, 256, .inr (.inl fD))), (m0, .inr (8, [.ref mH, .int aM, .long aC, .int mM, .long mQ, .int oV, .int u_r_261, .int lI, .int sW, .int dP, .int sT, .long aT, .int 0, .int iW, .ref mI, .ref mJ, .ref mS, .ref mD, .int iH, .int aE, .int mN, .long sZ, .ref mX, .int tS, .int tA, .int tW, .ref mA, .ref mB, .ref mW, .ref mL, .int lS]))] H := hP
                        have hD : va_D A [(mH, .inl (cI, 512, .inl fH)), (mI, .inl (cL, 1200, .inr (.inl fI))), (mJ, .inl (cI, 4, .inl (k4i j0 j1 j2 j3))), (mS, .inl (cI, 4, .inl (k4i s0 s1 s2 s3))), (mD, .inl (cL, 256, .inr (.inl fD))), (m0, .inr (8, [.ref mH, .int aM, .long aC, .int mM, .long mQ, .int oV, .int u_r_261, .int lI, .int sW, .int dP, .int sT, .long aT, .int 0, .int iW, .ref mI, .ref mJ, .ref mS, .ref mD, .int iH, .int aE, .int mN, .long sZ, .ref mX, .int tS, .int tA, .int tW, .ref mA, .ref mB, .ref mW, .ref mL, .int lS]))] := hD
                        try dsimp only at wr_261
                        try simp only [Int32.reduceToInt, Int64.reduceToInt] at wr_261
                        refine lv_iconst (v := 0) hx hb dX8_copies_269 (by decide) ?_
                        refine kIret (u := (u_r_261, dP, 0, iW, fH, fD, fI, j0, j1, j2, j3, s0, s1, s2, s3)) hx hb hr rfl hlocks hS dX8_copies_270 ?_ (hP.sub [5, 0, 1, 2, 3, 4] rfl) (hD.sub [5, 0, 1, 2, 3, 4] (by decide) rfl)
                        try dsimp only
                        try simp only [Int32.reduceToInt, Int64.reduceToInt, true_or, or_true, true_and, and_true]
                        try rw [← ex_244] at hk8
                        try rw [← ex_256] at hk8
                        repeat' apply And.intro
                        all_goals first | assumption | omega
                    · have t_234_257 := c_234_257
                      try simp only [kb_eq0, kb_ne0, lg_cmp_lt, lg_cmp_le, lg_cmp_gt, lg_cmp_ge, lg_cmp_eq] at t_234_257
                      try simp only [Int32.lt_iff_toInt_lt, Int32.le_iff_toInt_le, ← Int32.toInt_inj, Int64.lt_iff_toInt_lt, Int64.le_iff_toInt_le, ← Int64.toInt_inj, Int32.toInt_toInt64, Int32.reduceToInt, Int64.reduceToInt] at t_234_257
                      refine lv_aload_n hx hb dX8_copies_237 rfl (lv_at hl 4 rfl) ?_
                      refine lv_lload hx hb dX8_copies_238 (lv_at hl 0 rfl) ?_
                      refine kCallVd (wr := [(mI, .inl (cL, 1200, .inr (.inl fI))), (mJ, .inl (cI, 4, .inl (k4i j0 j1 j2 j3))), (mS, .inl (cI, 4, .inl (k4i s0 s1 s2 s3))), (mD, .inl (cL, 256, .inr (.inl fD)))]) (va_runV (As := [.long x_256]) (rest := []) ⟨hx, hb, hml, hown, hts⟩ (q_store l D cI cL cB cZ cT _ m0 mH mI mJ mS mD mX mA mB mW mL aM aC mM mQ oV pL lI sW dP sT aT 8 iW iH aE mN sZ tS tA tW lS fH x_256 (by omega)) (cwV 1 hts gX8_copies_X8_store rfl rfl rfl (by decide +kernel) ⟨Nat.le_of_ble_eq_true rfl, Nat.le_of_ble_eq_true rfl⟩) (kPreV hG hP hD [0, 1] rfl (by decide) 0 8 rfl rfl rfl) rfl rfl hl.1 rfl (lv_room (Nat.le_of_ble_eq_true rfl)) dX8_copies_240 ⟨Nat.le_of_ble_eq_true rfl, Nat.le_of_ble_eq_true rfl⟩) hA hP hD hS [0, 1] [2, 3, 4, 5] rfl rfl (by decide) (by decide) (fun _ u_r_262 H locs wr_262 hP hD hS => ?_)
                      have hP : va_P D vwCl [(mI, .inl (cL, 1200, .inr (.inl fI))), (mJ, .inl (cI, 4, .inl (k4i j0 j1 j2 j3))), (mS, .inl (cI, 4, .inl (k4i s0 s1 s2 s3))), (mD, .inl (cL, 256, .inr (.inl fD))), (m0, .inr (8, [.ref mH, .int aM, .long aC, .int mM, .long mQ, .int oV, .int pL, .int lI, .int sW, .int dP, .int sT, .long aT, .int 8, .int iW, .ref mI, .ref mJ, .ref mS, .ref mD, .int iH, .int aE, .int mN, .long sZ, .ref mX, .int tS, .int tA, .int tW, .ref mA, .ref mB, .ref mW, .ref mL, .int lS])), (mH, .inl (cI, 512, .inl u_r_262))] H := hP
                      have hD : va_D A [(mI, .inl (cL, 1200, .inr (.inl fI))), (mJ, .inl (cI, 4, .inl (k4i j0 j1 j2 j3))), (mS, .inl (cI, 4, .inl (k4i s0 s1 s2 s3))), (mD, .inl (cL, 256, .inr (.inl fD))), (m0, .inr (8, [.ref mH, .int aM, .long aC, .int mM, .long mQ, .int oV, .int pL, .int lI, .int sW, .int dP, .int sT, .long aT, .int 8, .int iW, .ref mI, .ref mJ, .ref mS, .ref mD, .int iH, .int aE, .int mN, .long sZ, .ref mX, .int tS, .int tA, .int tW, .ref mA, .ref mB, .ref mW, .ref mL, .int lS])), (mH, .inl (cI, 512, .inl u_r_262))] := hD
                      try dsimp only at wr_262
                      try simp only [Int32.reduceToInt, Int64.reduceToInt] at wr_262
                      refine lv_goto (tgt := 269) hx hb dX8_copies_243 (by decide) ?_
                      refine lv_iconst (v := 0) hx hb dX8_copies_269 (by decide) ?_
                      refine kIret (u := (pL, dP, 8, iW, u_r_262, fD, fI, j0, j1, j2, j3, s0, s1, s2, s3)) hx hb hr rfl hlocks hS dX8_copies_270 ?_ (hP.sub [4, 5, 0, 1, 2, 3] rfl) (hD.sub [4, 5, 0, 1, 2, 3] (by decide) rfl)
                      try dsimp only
                      try simp only [Int32.reduceToInt, Int64.reduceToInt, true_or, or_true, true_and, and_true]
                      try rw [← ex_244] at hk8
                      try rw [← ex_256] at hk8
                      repeat' apply And.intro
                      all_goals first | assumption | omega
                  · have t_209_256 := c_209_256
                    try simp only [kb_eq0, kb_ne0, lg_cmp_lt, lg_cmp_le, lg_cmp_gt, lg_cmp_ge, lg_cmp_eq] at t_209_256
                    try simp only [Int32.lt_iff_toInt_lt, Int32.le_iff_toInt_le, ← Int32.toInt_inj, Int64.lt_iff_toInt_lt, Int64.le_iff_toInt_le, ← Int64.toInt_inj, Int32.toInt_toInt64, Int32.reduceToInt, Int64.reduceToInt] at t_209_256
                    refine lv_aload_n hx hb dX8_copies_212 rfl (lv_at hl 4 rfl) ?_
                    refine va_get (D := D) (ci := 8) (v := .ref mS) (C := RX8) (T := TX8) (N := 31) hx hb hts iX8_copies_X8 hown hK hP 0 rfl rfl 16 (by decide) (hts (.fieldLink RX8 20 "TapeCalculatorModel" "stands" "[I") (List.mem_of_getElem? (i := 5) rfl)) (fun _ h9 => h9) rfl dX8_copies_213 ?_
                    refine lv_iload_n hx hb dX8_copies_216 rfl (lv_at hl 2 rfl) ?_
                    refine lv_dup2_11 hx hb dX8_copies_217 rfl rfl ?_
                    refine va_iald hx hb hK hP 4 0 rfl rfl (vp_in_iff.mpr (by decide)) dX8_copies_218 ?_
                    refine lv_topi (fun x_263 ex_263 => ?_)
                    obtain rfl : s3 = x_263 := ex_263.symm
                    refine lv_iload_n hx hb dX8_copies_219 rfl (lv_at hl 3 rfl) ?_
                    refine lv_if_eq (tgt := 227) hx hb dX8_copies_220 (by decide) (fun c_220_263 => ?_) (fun c_220_263 => ?_)
                    · exact absurd c_220_263 (by decide)
                    · have t_220_263 := c_220_263
                      try simp only [kb_eq0, kb_ne0, lg_cmp_lt, lg_cmp_le, lg_cmp_gt, lg_cmp_ge, lg_cmp_eq] at t_220_263
                      try simp only [Int32.lt_iff_toInt_lt, Int32.le_iff_toInt_le, ← Int32.toInt_inj, Int64.lt_iff_toInt_lt, Int64.le_iff_toInt_le, ← Int64.toInt_inj, Int32.toInt_toInt64, Int32.reduceToInt, Int64.reduceToInt] at t_220_263
                      refine lv_iconst (v := (-1)) hx hb dX8_copies_223 (by decide) ?_
                      refine lv_goto (tgt := 228) hx hb dX8_copies_224 (by decide) ?_
                      refine lv_iadd hx hb dX8_copies_228 ?_
                      refine va_iast hx hb hK hP hD hS 4 0 rfl rfl (vp_in_iff.mpr (by decide)) dX8_copies_229 (fun H locs hP hD hS => ?_)
                      rw [k4i_3] at hP hD
                      have hP : va_P D vwCl [(m0, .inr (8, [.ref mH, .int aM, .long aC, .int mM, .long mQ, .int oV, .int pL, .int lI, .int sW, .int dP, .int sT, .long aT, .int 8, .int iW, .ref mI, .ref mJ, .ref mS, .ref mD, .int iH, .int aE, .int mN, .long sZ, .ref mX, .int tS, .int tA, .int tW, .ref mA, .ref mB, .ref mW, .ref mL, .int lS])), (mH, .inl (cI, 512, .inl fH)), (mI, .inl (cL, 1200, .inr (.inl fI))), (mJ, .inl (cI, 4, .inl (k4i j0 j1 j2 j3))), (mS, .inl (cI, 4, .inl (k4i s0 s1 s2 (s3 + (-1))))), (mD, .inl (cL, 256, .inr (.inl fD)))] H := hP
                      have hD : va_D A [(m0, .inr (8, [.ref mH, .int aM, .long aC, .int mM, .long mQ, .int oV, .int pL, .int lI, .int sW, .int dP, .int sT, .long aT, .int 8, .int iW, .ref mI, .ref mJ, .ref mS, .ref mD, .int iH, .int aE, .int mN, .long sZ, .ref mX, .int tS, .int tA, .int tW, .ref mA, .ref mB, .ref mW, .ref mL, .int lS])), (mH, .inl (cI, 512, .inl fH)), (mI, .inl (cL, 1200, .inr (.inl fI))), (mJ, .inl (cI, 4, .inl (k4i j0 j1 j2 j3))), (mS, .inl (cI, 4, .inl (k4i s0 s1 s2 (s3 + (-1))))), (mD, .inl (cL, 256, .inr (.inl fD)))] := hD
                      refine lv_lload hx hb dX8_copies_230 (lv_at hl 0 rfl) ?_
                      refine lv_lconst (v := 0) hx hb dX8_copies_232 (by decide) ?_
                      refine W.lcmp hx hb dX8_copies_233 ?_
                      refine lv_if_lt (tgt := 246) hx hb dX8_copies_234 (by decide) (fun c_234_264 => ?_) (fun c_234_264 => ?_)
                      · have t_234_264 := c_234_264
                        try simp only [kb_eq0, kb_ne0, lg_cmp_lt, lg_cmp_le, lg_cmp_gt, lg_cmp_ge, lg_cmp_eq] at t_234_264
                        try simp only [Int32.lt_iff_toInt_lt, Int32.le_iff_toInt_le, ← Int32.toInt_inj, Int64.lt_iff_toInt_lt, Int64.le_iff_toInt_le, ← Int64.toInt_inj, Int32.toInt_toInt64, Int32.reduceToInt, Int64.reduceToInt] at t_234_264
                        refine lv_aload_n hx hb dX8_copies_246 rfl (lv_at hl 4 rfl) ?_
                        refine lv_iconst (v := 0) hx hb dX8_copies_247 (by decide) ?_
                        refine va_put (D := D) (ci := 8) (v := .int 0) (ty := .int) (C := RX8) (T := TX8) (N := 31) hx hb hts iX8_copies_X8 tyX8 tyX8_ok nmX8 hown hK hP hD hS 0 rfl rfl 12 (by decide) (hts (.fieldLink RX8 43 "TapeCalculatorModel" "chosen" "I") (List.mem_of_getElem? (i := 1) rfl)) (fun _ h9 => h9) rfl (by decide +kernel) rfl rfl (Nat.le_of_ble_eq_true rfl) dX8_copies_248 (fun H locs hP hD hS => ?_)
                        have hP : va_P D vwCl [(m0, .inr (8, [.ref mH, .int aM, .long aC, .int mM, .long mQ, .int oV, .int pL, .int lI, .int sW, .int dP, .int sT, .long aT, .int 0, .int iW, .ref mI, .ref mJ, .ref mS, .ref mD, .int iH, .int aE, .int mN, .long sZ, .ref mX, .int tS, .int tA, .int tW, .ref mA, .ref mB, .ref mW, .ref mL, .int lS])), (mH, .inl (cI, 512, .inl fH)), (mI, .inl (cL, 1200, .inr (.inl fI))), (mJ, .inl (cI, 4, .inl (k4i j0 j1 j2 j3))), (mS, .inl (cI, 4, .inl (k4i s0 s1 s2 (s3 + (-1))))), (mD, .inl (cL, 256, .inr (.inl fD)))] H := hP
                        have hD : va_D A [(m0, .inr (8, [.ref mH, .int aM, .long aC, .int mM, .long mQ, .int oV, .int pL, .int lI, .int sW, .int dP, .int sT, .long aT, .int 0, .int iW, .ref mI, .ref mJ, .ref mS, .ref mD, .int iH, .int aE, .int mN, .long sZ, .ref mX, .int tS, .int tA, .int tW, .ref mA, .ref mB, .ref mW, .ref mL, .int lS])), (mH, .inl (cI, 512, .inl fH)), (mI, .inl (cL, 1200, .inr (.inl fI))), (mJ, .inl (cI, 4, .inl (k4i j0 j1 j2 j3))), (mS, .inl (cI, 4, .inl (k4i s0 s1 s2 (s3 + (-1))))), (mD, .inl (cL, 256, .inr (.inl fD)))] := hD
                        refine lv_aload_n hx hb dX8_copies_251 rfl (lv_at hl 4 rfl) ?_
                        refine lv_lload hx hb dX8_copies_252 (lv_at hl 0 rfl) ?_
                        refine lv_ldc2 (v := (-2)) hx hb hown (hts (.constantLong RX8 111 (-2)) (List.mem_of_getElem? (i := 9) rfl)) dX8_copies_254 ?_
                        refine W.lcmp hx hb dX8_copies_257 ?_
                        refine lv_if_ne (tgt := 265) hx hb dX8_copies_258 (by decide) (fun c_258_265 => ?_) (fun c_258_265 => ?_)
                        · have t_258_265 := c_258_265
                          try simp only [kb_eq0, kb_ne0, lg_cmp_lt, lg_cmp_le, lg_cmp_gt, lg_cmp_ge, lg_cmp_eq] at t_258_265
                          try simp only [Int32.lt_iff_toInt_lt, Int32.le_iff_toInt_le, ← Int32.toInt_inj, Int64.lt_iff_toInt_lt, Int64.le_iff_toInt_le, ← Int64.toInt_inj, Int32.toInt_toInt64, Int32.reduceToInt, Int64.reduceToInt] at t_258_265
                          refine lv_iconst (v := 1) hx hb dX8_copies_265 (by decide) ?_
                          refine kCallVd (wr := [(mH, .inl (cI, 512, .inl fH)), (mI, .inl (cL, 1200, .inr (.inl fI))), (mJ, .inl (cI, 4, .inl (k4i j0 j1 j2 j3))), (mS, .inl (cI, 4, .inl (k4i s0 s1 s2 (s3 + (-1))))), (mD, .inl (cL, 256, .inr (.inl fD)))]) (va_runV (As := [.int 1]) (rest := []) ⟨hx, hb, hml, hown, hts⟩ (q_go l D cI cL cB cZ cT _ m0 mH mI mJ mS mD mX mA mB mW mL aM aC mM mQ oV pL lI sW dP sT aT 0 iW iH aE mN sZ tS tA tW lS 1) (cwV 1 hts gX8_copies_X8_go rfl rfl rfl (by decide +kernel) ⟨Nat.le_of_ble_eq_true rfl, Nat.le_of_ble_eq_true rfl⟩) (kPreV hG hP hD [0] rfl (by decide) 0 8 rfl rfl rfl) rfl rfl hl.1 rfl (lv_room (Nat.le_of_ble_eq_true rfl)) dX8_copies_266 ⟨Nat.le_of_ble_eq_true rfl, Nat.le_of_ble_eq_true rfl⟩) hA hP hD hS [0] [1, 2, 3, 4, 5] rfl rfl (by decide) (by decide) (fun _ u_r_267 H locs wr_267 hP hD hS => ?_)
                          have hP : va_P D vwCl [(mH, .inl (cI, 512, .inl fH)), (mI, .inl (cL, 1200, .inr (.inl fI))), (mJ, .inl (cI, 4, .inl (k4i j0 j1 j2 j3))), (mS, .inl (cI, 4, .inl (k4i s0 s1 s2 (s3 + (-1))))), (mD, .inl (cL, 256, .inr (.inl fD))), (m0, .inr (8, [.ref mH, .int aM, .long aC, .int mM, .long mQ, .int oV, .int u_r_267, .int lI, .int sW, .int dP, .int sT, .long aT, .int 0, .int iW, .ref mI, .ref mJ, .ref mS, .ref mD, .int iH, .int aE, .int mN, .long sZ, .ref mX, .int tS, .int tA, .int tW, .ref mA, .ref mB, .ref mW, .ref mL, .int lS]))] H := hP
                          have hD : va_D A [(mH, .inl (cI, 512, .inl fH)), (mI, .inl (cL, 1200, .inr (.inl fI))), (mJ, .inl (cI, 4, .inl (k4i j0 j1 j2 j3))), (mS, .inl (cI, 4, .inl (k4i s0 s1 s2 (s3 + (-1))))), (mD, .inl (cL, 256, .inr (.inl fD))), (m0, .inr (8, [.ref mH, .int aM, .long aC, .int mM, .long mQ, .int oV, .int u_r_267, .int lI, .int sW, .int dP, .int sT, .long aT, .int 0, .int iW, .ref mI, .ref mJ, .ref mS, .ref mD, .int iH, .int aE, .int mN, .long sZ, .ref mX, .int tS, .int tA, .int tW, .ref mA, .ref mB, .ref mW, .ref mL, .int lS]))] := hD
                          try dsimp only at wr_267
                          try simp only [Int32.reduceToInt, Int64.reduceToInt] at wr_267
                          refine lv_iconst (v := 0) hx hb dX8_copies_269 (by decide) ?_
                          refine kIret (u := (u_r_267, dP, 0, iW, fH, fD, fI, j0, j1, j2, j3, s0, s1, s2, (s3 + (-1)))) hx hb hr rfl hlocks hS dX8_copies_270 ?_ (hP.sub [5, 0, 1, 2, 3, 4] rfl) (hD.sub [5, 0, 1, 2, 3, 4] (by decide) rfl)
                          try dsimp only
                          try simp only [Int32.reduceToInt, Int64.reduceToInt, true_or, or_true, true_and, and_true]
                          try rw [← ex_244] at hk8
                          try rw [← ex_256] at hk8
                          repeat' apply And.intro
                          all_goals first | assumption | omega
                        · have t_258_265 := c_258_265
                          try simp only [kb_eq0, kb_ne0, lg_cmp_lt, lg_cmp_le, lg_cmp_gt, lg_cmp_ge, lg_cmp_eq] at t_258_265
                          try simp only [Int32.lt_iff_toInt_lt, Int32.le_iff_toInt_le, ← Int32.toInt_inj, Int64.lt_iff_toInt_lt, Int64.le_iff_toInt_le, ← Int64.toInt_inj, Int32.toInt_toInt64, Int32.reduceToInt, Int64.reduceToInt] at t_258_265
                          refine lv_iconst (v := 2) hx hb dX8_copies_261 (by decide) ?_
                          refine lv_goto (tgt := 266) hx hb dX8_copies_262 (by decide) ?_
                          refine kCallVd (wr := [(mH, .inl (cI, 512, .inl fH)), (mI, .inl (cL, 1200, .inr (.inl fI))), (mJ, .inl (cI, 4, .inl (k4i j0 j1 j2 j3))), (mS, .inl (cI, 4, .inl (k4i s0 s1 s2 (s3 + (-1))))), (mD, .inl (cL, 256, .inr (.inl fD)))]) (va_runV (As := [.int 2]) (rest := []) ⟨hx, hb, hml, hown, hts⟩ (q_go l D cI cL cB cZ cT _ m0 mH mI mJ mS mD mX mA mB mW mL aM aC mM mQ oV pL lI sW dP sT aT 0 iW iH aE mN sZ tS tA tW lS 2) (cwV 1 hts gX8_copies_X8_go rfl rfl rfl (by decide +kernel) ⟨Nat.le_of_ble_eq_true rfl, Nat.le_of_ble_eq_true rfl⟩) (kPreV hG hP hD [0] rfl (by decide) 0 8 rfl rfl rfl) rfl rfl hl.1 rfl (lv_room (Nat.le_of_ble_eq_true rfl)) dX8_copies_266 ⟨Nat.le_of_ble_eq_true rfl, Nat.le_of_ble_eq_true rfl⟩) hA hP hD hS [0] [1, 2, 3, 4, 5] rfl rfl (by decide) (by decide) (fun _ u_r_268 H locs wr_268 hP hD hS => ?_)
                          have hP : va_P D vwCl [(mH, .inl (cI, 512, .inl fH)), (mI, .inl (cL, 1200, .inr (.inl fI))), (mJ, .inl (cI, 4, .inl (k4i j0 j1 j2 j3))), (mS, .inl (cI, 4, .inl (k4i s0 s1 s2 (s3 + (-1))))), (mD, .inl (cL, 256, .inr (.inl fD))), (m0, .inr (8, [.ref mH, .int aM, .long aC, .int mM, .long mQ, .int oV, .int u_r_268, .int lI, .int sW, .int dP, .int sT, .long aT, .int 0, .int iW, .ref mI, .ref mJ, .ref mS, .ref mD, .int iH, .int aE, .int mN, .long sZ, .ref mX, .int tS, .int tA, .int tW, .ref mA, .ref mB, .ref mW, .ref mL, .int lS]))] H := hP
                          have hD : va_D A [(mH, .inl (cI, 512, .inl fH)), (mI, .inl (cL, 1200, .inr (.inl fI))), (mJ, .inl (cI, 4, .inl (k4i j0 j1 j2 j3))), (mS, .inl (cI, 4, .inl (k4i s0 s1 s2 (s3 + (-1))))), (mD, .inl (cL, 256, .inr (.inl fD))), (m0, .inr (8, [.ref mH, .int aM, .long aC, .int mM, .long mQ, .int oV, .int u_r_268, .int lI, .int sW, .int dP, .int sT, .long aT, .int 0, .int iW, .ref mI, .ref mJ, .ref mS, .ref mD, .int iH, .int aE, .int mN, .long sZ, .ref mX, .int tS, .int tA, .int tW, .ref mA, .ref mB, .ref mW, .ref mL, .int lS]))] := hD
                          try dsimp only at wr_268
                          try simp only [Int32.reduceToInt, Int64.reduceToInt] at wr_268
                          refine lv_iconst (v := 0) hx hb dX8_copies_269 (by decide) ?_
                          refine kIret (u := (u_r_268, dP, 0, iW, fH, fD, fI, j0, j1, j2, j3, s0, s1, s2, (s3 + (-1)))) hx hb hr rfl hlocks hS dX8_copies_270 ?_ (hP.sub [5, 0, 1, 2, 3, 4] rfl) (hD.sub [5, 0, 1, 2, 3, 4] (by decide) rfl)
                          try dsimp only
                          try simp only [Int32.reduceToInt, Int64.reduceToInt, true_or, or_true, true_and, and_true]
                          try rw [← ex_244] at hk8
                          try rw [← ex_256] at hk8
                          repeat' apply And.intro
                          all_goals first | assumption | omega
                      · have t_234_264 := c_234_264
                        try simp only [kb_eq0, kb_ne0, lg_cmp_lt, lg_cmp_le, lg_cmp_gt, lg_cmp_ge, lg_cmp_eq] at t_234_264
                        try simp only [Int32.lt_iff_toInt_lt, Int32.le_iff_toInt_le, ← Int32.toInt_inj, Int64.lt_iff_toInt_lt, Int64.le_iff_toInt_le, ← Int64.toInt_inj, Int32.toInt_toInt64, Int32.reduceToInt, Int64.reduceToInt] at t_234_264
                        refine lv_aload_n hx hb dX8_copies_237 rfl (lv_at hl 4 rfl) ?_
                        refine lv_lload hx hb dX8_copies_238 (lv_at hl 0 rfl) ?_
                        refine kCallVd (wr := [(mI, .inl (cL, 1200, .inr (.inl fI))), (mJ, .inl (cI, 4, .inl (k4i j0 j1 j2 j3))), (mS, .inl (cI, 4, .inl (k4i s0 s1 s2 (s3 + (-1))))), (mD, .inl (cL, 256, .inr (.inl fD)))]) (va_runV (As := [.long x_256]) (rest := []) ⟨hx, hb, hml, hown, hts⟩ (q_store l D cI cL cB cZ cT _ m0 mH mI mJ mS mD mX mA mB mW mL aM aC mM mQ oV pL lI sW dP sT aT 8 iW iH aE mN sZ tS tA tW lS fH x_256 (by omega)) (cwV 1 hts gX8_copies_X8_store rfl rfl rfl (by decide +kernel) ⟨Nat.le_of_ble_eq_true rfl, Nat.le_of_ble_eq_true rfl⟩) (kPreV hG hP hD [0, 1] rfl (by decide) 0 8 rfl rfl rfl) rfl rfl hl.1 rfl (lv_room (Nat.le_of_ble_eq_true rfl)) dX8_copies_240 ⟨Nat.le_of_ble_eq_true rfl, Nat.le_of_ble_eq_true rfl⟩) hA hP hD hS [0, 1] [2, 3, 4, 5] rfl rfl (by decide) (by decide) (fun _ u_r_269 H locs wr_269 hP hD hS => ?_)
                        have hP : va_P D vwCl [(mI, .inl (cL, 1200, .inr (.inl fI))), (mJ, .inl (cI, 4, .inl (k4i j0 j1 j2 j3))), (mS, .inl (cI, 4, .inl (k4i s0 s1 s2 (s3 + (-1))))), (mD, .inl (cL, 256, .inr (.inl fD))), (m0, .inr (8, [.ref mH, .int aM, .long aC, .int mM, .long mQ, .int oV, .int pL, .int lI, .int sW, .int dP, .int sT, .long aT, .int 8, .int iW, .ref mI, .ref mJ, .ref mS, .ref mD, .int iH, .int aE, .int mN, .long sZ, .ref mX, .int tS, .int tA, .int tW, .ref mA, .ref mB, .ref mW, .ref mL, .int lS])), (mH, .inl (cI, 512, .inl u_r_269))] H := hP
                        have hD : va_D A [(mI, .inl (cL, 1200, .inr (.inl fI))), (mJ, .inl (cI, 4, .inl (k4i j0 j1 j2 j3))), (mS, .inl (cI, 4, .inl (k4i s0 s1 s2 (s3 + (-1))))), (mD, .inl (cL, 256, .inr (.inl fD))), (m0, .inr (8, [.ref mH, .int aM, .long aC, .int mM, .long mQ, .int oV, .int pL, .int lI, .int sW, .int dP, .int sT, .long aT, .int 8, .int iW, .ref mI, .ref mJ, .ref mS, .ref mD, .int iH, .int aE, .int mN, .long sZ, .ref mX, .int tS, .int tA, .int tW, .ref mA, .ref mB, .ref mW, .ref mL, .int lS])), (mH, .inl (cI, 512, .inl u_r_269))] := hD
                        try dsimp only at wr_269
                        try simp only [Int32.reduceToInt, Int64.reduceToInt] at wr_269
                        refine lv_goto (tgt := 269) hx hb dX8_copies_243 (by decide) ?_
                        refine lv_iconst (v := 0) hx hb dX8_copies_269 (by decide) ?_
                        refine kIret (u := (pL, dP, 8, iW, u_r_269, fD, fI, j0, j1, j2, j3, s0, s1, s2, (s3 + (-1)))) hx hb hr rfl hlocks hS dX8_copies_270 ?_ (hP.sub [4, 5, 0, 1, 2, 3] rfl) (hD.sub [4, 5, 0, 1, 2, 3] (by decide) rfl)
                        try dsimp only
                        try simp only [Int32.reduceToInt, Int64.reduceToInt, true_or, or_true, true_and, and_true]
                        try rw [← ex_244] at hk8
                        try rw [← ex_256] at hk8
                        repeat' apply And.intro
                        all_goals first | assumption | omega
        · exact absurd (by decide) c_79_237
      · exact absurd (by decide) c_16_236
    · exact absurd c_4_235 (by decide)
  · have hk8 := k_and (x := dP + 1) (m := 255) 8 (by decide) (by decide)
    refine lv_aload_n hx hb dX8_copies_0 rfl (lv_at hl 0 rfl) ?_
    refine va_get (D := D) (ci := 8) (v := .int 9) (C := RX8) (T := TX8) (N := 31) hx hb hts iX8_copies_X8 hown hK hP 0 rfl rfl 12 (by decide) (hts (.fieldLink RX8 43 "TapeCalculatorModel" "chosen" "I") (List.mem_of_getElem? (i := 1) rfl)) (fun _ h9 => h9) rfl dX8_copies_1 ?_
    refine lv_if_ne (tgt := 10) hx hb dX8_copies_4 (by decide) (fun c_4_269 => ?_) (fun c_4_269 => ?_)
    · have t_4_269 := c_4_269
      try simp only [kb_eq0, kb_ne0, lg_cmp_lt, lg_cmp_le, lg_cmp_gt, lg_cmp_ge, lg_cmp_eq] at t_4_269
      try simp only [Int32.lt_iff_toInt_lt, Int32.le_iff_toInt_le, ← Int32.toInt_inj, Int64.lt_iff_toInt_lt, Int64.le_iff_toInt_le, ← Int64.toInt_inj, Int32.toInt_toInt64, Int32.reduceToInt, Int64.reduceToInt] at t_4_269
      refine lv_aload_n hx hb dX8_copies_10 rfl (lv_at hl 0 rfl) ?_
      refine va_get (D := D) (ci := 8) (v := .int 9) (C := RX8) (T := TX8) (N := 31) hx hb hts iX8_copies_X8 hown hK hP 0 rfl rfl 12 (by decide) (hts (.fieldLink RX8 43 "TapeCalculatorModel" "chosen" "I") (List.mem_of_getElem? (i := 1) rfl)) (fun _ h9 => h9) rfl dX8_copies_11 ?_
      refine lv_bipush (v := 12) hx hb dX8_copies_14 (by decide) ?_
      refine lv_icmp_le (tgt := 73) hx hb dX8_copies_16 (by decide) (fun c_16_270 => ?_) (fun c_16_270 => ?_)
      · have t_16_270 := c_16_270
        try simp only [kb_eq0, kb_ne0, lg_cmp_lt, lg_cmp_le, lg_cmp_gt, lg_cmp_ge, lg_cmp_eq] at t_16_270
        try simp only [Int32.lt_iff_toInt_lt, Int32.le_iff_toInt_le, ← Int32.toInt_inj, Int64.lt_iff_toInt_lt, Int64.le_iff_toInt_le, ← Int64.toInt_inj, Int32.toInt_toInt64, Int32.reduceToInt, Int64.reduceToInt] at t_16_270
        refine lv_aload_n hx hb dX8_copies_73 rfl (lv_at hl 0 rfl) ?_
        refine va_get (D := D) (ci := 8) (v := .int 9) (C := RX8) (T := TX8) (N := 31) hx hb hts iX8_copies_X8 hown hK hP 0 rfl rfl 12 (by decide) (hts (.fieldLink RX8 43 "TapeCalculatorModel" "chosen" "I") (List.mem_of_getElem? (i := 1) rfl)) (fun _ h9 => h9) rfl dX8_copies_74 ?_
        refine lv_bipush (v := 8) hx hb dX8_copies_77 (by decide) ?_
        refine lv_icmp_le (tgt := 109) hx hb dX8_copies_79 (by decide) (fun c_79_271 => ?_) (fun c_79_271 => ?_)
        · exact absurd c_79_271 (by decide)
        · have t_79_271 := c_79_271
          try simp only [kb_eq0, kb_ne0, lg_cmp_lt, lg_cmp_le, lg_cmp_gt, lg_cmp_ge, lg_cmp_eq] at t_79_271
          try simp only [Int32.lt_iff_toInt_lt, Int32.le_iff_toInt_le, ← Int32.toInt_inj, Int64.lt_iff_toInt_lt, Int64.le_iff_toInt_le, ← Int64.toInt_inj, Int32.toInt_toInt64, Int32.reduceToInt, Int64.reduceToInt] at t_79_271
          refine lv_aload_n hx hb dX8_copies_82 rfl (lv_at hl 0 rfl) ?_
          refine lv_aload_n hx hb dX8_copies_83 rfl (lv_at hl 0 rfl) ?_
          refine va_get (D := D) (ci := 8) (v := .int 9) (C := RX8) (T := TX8) (N := 31) hx hb hts iX8_copies_X8 hown hK hP 0 rfl rfl 12 (by decide) (hts (.fieldLink RX8 43 "TapeCalculatorModel" "chosen" "I") (List.mem_of_getElem? (i := 1) rfl)) (fun _ h9 => h9) rfl dX8_copies_84 ?_
          refine lv_bipush (v := 9) hx hb dX8_copies_87 (by decide) ?_
          refine lv_isub hx hb dX8_copies_89 ?_
          refine lv_topi (fun x_273 ex_273 => ?_)
          obtain rfl : x_273 = 0 := ex_273.trans (by decide)
          refine lv_aload_n hx hb dX8_copies_90 rfl (lv_at hl 0 rfl) ?_
          refine kCallL (wr := [(mI, .inl (cL, 1200, .inr (.inl fI))), (mJ, .inl (cI, 4, .inl (k4i j0 j1 j2 j3))), (mS, .inl (cI, 4, .inl (k4i s0 s1 s2 s3))), (mD, .inl (cL, 256, .inr (.inl fD)))]) (va_runV (As := []) (rest := [.int 0, .ref m0]) ⟨hx, hb, hml, hown, hts⟩ (q_operandBits l D cI cL cB cZ cT _ m0 mH mI mJ mS mD mX mA mB mW mL aM aC mM mQ oV pL lI sW dP sT aT 9 iW iH aE mN sZ tS tA tW lS fH (by omega)) (cwV 0 hts gX8_copies_X8_operandBits rfl rfl rfl (by decide +kernel) ⟨Nat.le_of_ble_eq_true rfl, Nat.le_of_ble_eq_true rfl⟩) (kPreV hG hP hD [0, 1] rfl (by decide) 0 8 rfl rfl rfl) rfl rfl hl.1 rfl (lv_room (Nat.le_of_ble_eq_true rfl)) dX8_copies_91 ⟨Nat.le_of_ble_eq_true rfl, Nat.le_of_ble_eq_true rfl⟩) hA hP hD hS [0, 1] [2, 3, 4, 5] rfl rfl (by decide) (by decide) (fun r_274 u_r_274 H locs wr_274 hP hD hS => ?_)
          have hP : va_P D vwCl [(mI, .inl (cL, 1200, .inr (.inl fI))), (mJ, .inl (cI, 4, .inl (k4i j0 j1 j2 j3))), (mS, .inl (cI, 4, .inl (k4i s0 s1 s2 s3))), (mD, .inl (cL, 256, .inr (.inl fD))), (m0, .inr (8, [.ref mH, .int aM, .long aC, .int mM, .long mQ, .int oV, .int pL, .int lI, .int sW, .int dP, .int sT, .long aT, .int 9, .int iW, .ref mI, .ref mJ, .ref mS, .ref mD, .int iH, .int aE, .int mN, .long sZ, .ref mX, .int tS, .int tA, .int tW, .ref mA, .ref mB, .ref mW, .ref mL, .int lS])), (mH, .inl (cI, 512, .inl fH))] H := hP
          have hD : va_D A [(mI, .inl (cL, 1200, .inr (.inl fI))), (mJ, .inl (cI, 4, .inl (k4i j0 j1 j2 j3))), (mS, .inl (cI, 4, .inl (k4i s0 s1 s2 s3))), (mD, .inl (cL, 256, .inr (.inl fD))), (m0, .inr (8, [.ref mH, .int aM, .long aC, .int mM, .long mQ, .int oV, .int pL, .int lI, .int sW, .int dP, .int sT, .long aT, .int 9, .int iW, .ref mI, .ref mJ, .ref mS, .ref mD, .int iH, .int aE, .int mN, .long sZ, .ref mX, .int tS, .int tA, .int tW, .ref mA, .ref mB, .ref mW, .ref mL, .int lS])), (mH, .inl (cI, 512, .inl fH))] := hD
          try dsimp only at wr_274
          try simp only [Int32.reduceToInt, Int64.reduceToInt] at wr_274
          refine kCallI (wr := [(mD, .inl (cL, 256, .inr (.inl fD))), (mH, .inl (cI, 512, .inl fH))]) (va_runV (As := [.int 0, .long r_274]) (rest := []) ⟨hx, hb, hml, hown, hts⟩ (q_puts l D cI cL cB cZ cT _ m0 mH mI mJ mS mD mX mA mB mW mL aM aC mM mQ oV pL lI sW dP sT aT 9 iW iH aE mN sZ tS tA tW lS fI j0 j1 j2 j3 s0 s1 s2 s3 0 r_274 (by omega) (by decide)) (cwV 2 hts gX8_copies_X8_puts rfl rfl rfl (by decide +kernel) ⟨Nat.le_of_ble_eq_true rfl, Nat.le_of_ble_eq_true rfl⟩) (kPreV hG hP hD [4, 0, 1, 2] rfl (by decide) 0 8 rfl rfl rfl) rfl rfl hl.1 rfl (lv_room (Nat.le_of_ble_eq_true rfl)) dX8_copies_94 ⟨Nat.le_of_ble_eq_true rfl, Nat.le_of_ble_eq_true rfl⟩) hA hP hD hS [4, 0, 1, 2] [3, 5] rfl rfl (by decide) (by decide) (fun r_275 u_r_275 H locs wr_275 hP hD hS => ?_)
          have hP : va_P D vwCl [(mD, .inl (cL, 256, .inr (.inl fD))), (mH, .inl (cI, 512, .inl fH)), (m0, .inr (8, [.ref mH, .int aM, .long aC, .int mM, .long mQ, .int oV, .int pL, .int lI, .int sW, .int dP, .int sT, .long aT, .int 9, .int iW, .ref mI, .ref mJ, .ref mS, .ref mD, .int iH, .int aE, .int mN, .long sZ, .ref mX, .int tS, .int tA, .int tW, .ref mA, .ref mB, .ref mW, .ref mL, .int lS])), (mI, .inl (cL, 1200, .inr (.inl u_r_275.1))), (mJ, .inl (cI, 4, .inl (k4i u_r_275.2.1 u_r_275.2.2.1 u_r_275.2.2.2.1 u_r_275.2.2.2.2.1))), (mS, .inl (cI, 4, .inl (k4i u_r_275.2.2.2.2.2.1 u_r_275.2.2.2.2.2.2.1 u_r_275.2.2.2.2.2.2.2.1 u_r_275.2.2.2.2.2.2.2.2)))] H := hP
          have hD : va_D A [(mD, .inl (cL, 256, .inr (.inl fD))), (mH, .inl (cI, 512, .inl fH)), (m0, .inr (8, [.ref mH, .int aM, .long aC, .int mM, .long mQ, .int oV, .int pL, .int lI, .int sW, .int dP, .int sT, .long aT, .int 9, .int iW, .ref mI, .ref mJ, .ref mS, .ref mD, .int iH, .int aE, .int mN, .long sZ, .ref mX, .int tS, .int tA, .int tW, .ref mA, .ref mB, .ref mW, .ref mL, .int lS])), (mI, .inl (cL, 1200, .inr (.inl u_r_275.1))), (mJ, .inl (cI, 4, .inl (k4i u_r_275.2.1 u_r_275.2.2.1 u_r_275.2.2.2.1 u_r_275.2.2.2.2.1))), (mS, .inl (cI, 4, .inl (k4i u_r_275.2.2.2.2.2.1 u_r_275.2.2.2.2.2.2.1 u_r_275.2.2.2.2.2.2.2.1 u_r_275.2.2.2.2.2.2.2.2)))] := hD
          try dsimp only at wr_275
          try simp only [Int32.reduceToInt, Int64.reduceToInt] at wr_275
          refine lv_if_ne (tgt := 102) hx hb dX8_copies_97 (by decide) (fun c_97_275 => ?_) (fun c_97_275 => ?_)
          · have t_97_275 := c_97_275
            try simp only [kb_eq0, kb_ne0, lg_cmp_lt, lg_cmp_le, lg_cmp_gt, lg_cmp_ge, lg_cmp_eq] at t_97_275
            try simp only [Int32.lt_iff_toInt_lt, Int32.le_iff_toInt_le, ← Int32.toInt_inj, Int64.lt_iff_toInt_lt, Int64.le_iff_toInt_le, ← Int64.toInt_inj, Int32.toInt_toInt64, Int32.reduceToInt, Int64.reduceToInt] at t_97_275
            refine lv_aload_n hx hb dX8_copies_102 rfl (lv_at hl 0 rfl) ?_
            refine lv_iconst (v := 1) hx hb dX8_copies_103 (by decide) ?_
            refine va_put (D := D) (ci := 8) (v := .int 1) (ty := .boolean) (C := RX8) (T := TX8) (N := 31) hx hb hts iX8_copies_X8 tyX8 tyX8_ok nmX8 hown hK hP hD hS 2 rfl rfl 13 (by decide) (hts (.fieldLink RX8 115 "TapeCalculatorModel" "isWritten" "Z") (List.mem_of_getElem? (i := 4) rfl)) (fun _ h9 => h9) rfl (by decide +kernel) rfl rfl (Nat.le_of_ble_eq_true rfl) dX8_copies_104 (fun H locs hP hD hS => ?_)
            have hP : va_P D vwCl [(mD, .inl (cL, 256, .inr (.inl fD))), (mH, .inl (cI, 512, .inl fH)), (m0, .inr (8, [.ref mH, .int aM, .long aC, .int mM, .long mQ, .int oV, .int pL, .int lI, .int sW, .int dP, .int sT, .long aT, .int 9, .int 1, .ref mI, .ref mJ, .ref mS, .ref mD, .int iH, .int aE, .int mN, .long sZ, .ref mX, .int tS, .int tA, .int tW, .ref mA, .ref mB, .ref mW, .ref mL, .int lS])), (mI, .inl (cL, 1200, .inr (.inl u_r_275.1))), (mJ, .inl (cI, 4, .inl (k4i u_r_275.2.1 u_r_275.2.2.1 u_r_275.2.2.2.1 u_r_275.2.2.2.2.1))), (mS, .inl (cI, 4, .inl (k4i u_r_275.2.2.2.2.2.1 u_r_275.2.2.2.2.2.2.1 u_r_275.2.2.2.2.2.2.2.1 u_r_275.2.2.2.2.2.2.2.2)))] H := hP
            have hD : va_D A [(mD, .inl (cL, 256, .inr (.inl fD))), (mH, .inl (cI, 512, .inl fH)), (m0, .inr (8, [.ref mH, .int aM, .long aC, .int mM, .long mQ, .int oV, .int pL, .int lI, .int sW, .int dP, .int sT, .long aT, .int 9, .int 1, .ref mI, .ref mJ, .ref mS, .ref mD, .int iH, .int aE, .int mN, .long sZ, .ref mX, .int tS, .int tA, .int tW, .ref mA, .ref mB, .ref mW, .ref mL, .int lS])), (mI, .inl (cL, 1200, .inr (.inl u_r_275.1))), (mJ, .inl (cI, 4, .inl (k4i u_r_275.2.1 u_r_275.2.2.1 u_r_275.2.2.2.1 u_r_275.2.2.2.2.1))), (mS, .inl (cI, 4, .inl (k4i u_r_275.2.2.2.2.2.1 u_r_275.2.2.2.2.2.2.1 u_r_275.2.2.2.2.2.2.2.1 u_r_275.2.2.2.2.2.2.2.2)))] := hD
            refine lv_iconst (v := 0) hx hb dX8_copies_107 (by decide) ?_
            refine kIret (u := (pL, dP, 9, 1, fH, fD, u_r_275.1, u_r_275.2.1, u_r_275.2.2.1, u_r_275.2.2.2.1, u_r_275.2.2.2.2.1, u_r_275.2.2.2.2.2.1, u_r_275.2.2.2.2.2.2.1, u_r_275.2.2.2.2.2.2.2.1, u_r_275.2.2.2.2.2.2.2.2)) hx hb hr rfl hlocks hS dX8_copies_108 ?_ (hP.sub [2, 1, 3, 4, 5, 0] rfl) (hD.sub [2, 1, 3, 4, 5, 0] (by decide) rfl)
            try dsimp only
            try simp only [Int32.reduceToInt, Int64.reduceToInt, true_or, or_true, true_and, and_true]
            repeat' apply And.intro
            all_goals first | assumption | omega
          · have t_97_275 := c_97_275
            try simp only [kb_eq0, kb_ne0, lg_cmp_lt, lg_cmp_le, lg_cmp_gt, lg_cmp_ge, lg_cmp_eq] at t_97_275
            try simp only [Int32.lt_iff_toInt_lt, Int32.le_iff_toInt_le, ← Int32.toInt_inj, Int64.lt_iff_toInt_lt, Int64.le_iff_toInt_le, ← Int64.toInt_inj, Int32.toInt_toInt64, Int32.reduceToInt, Int64.reduceToInt] at t_97_275
            refine lv_iconst (v := 5) hx hb dX8_copies_100 (by decide) ?_
            refine kIret (u := (pL, dP, 9, iW, fH, fD, u_r_275.1, u_r_275.2.1, u_r_275.2.2.1, u_r_275.2.2.2.1, u_r_275.2.2.2.2.1, u_r_275.2.2.2.2.2.1, u_r_275.2.2.2.2.2.2.1, u_r_275.2.2.2.2.2.2.2.1, u_r_275.2.2.2.2.2.2.2.2)) hx hb hr rfl hlocks hS dX8_copies_101 ?_ (hP.sub [2, 1, 3, 4, 5, 0] rfl) (hD.sub [2, 1, 3, 4, 5, 0] (by decide) rfl)
            try dsimp only
            try simp only [Int32.reduceToInt, Int64.reduceToInt, true_or, or_true, true_and, and_true]
            repeat' apply And.intro
            all_goals first | assumption | omega
      · exact absurd (by decide) c_16_270
    · exact absurd c_4_269 (by decide)
  · have hk8 := k_and (x := dP + 1) (m := 255) 8 (by decide) (by decide)
    refine lv_aload_n hx hb dX8_copies_0 rfl (lv_at hl 0 rfl) ?_
    refine va_get (D := D) (ci := 8) (v := .int 10) (C := RX8) (T := TX8) (N := 31) hx hb hts iX8_copies_X8 hown hK hP 0 rfl rfl 12 (by decide) (hts (.fieldLink RX8 43 "TapeCalculatorModel" "chosen" "I") (List.mem_of_getElem? (i := 1) rfl)) (fun _ h9 => h9) rfl dX8_copies_1 ?_
    refine lv_if_ne (tgt := 10) hx hb dX8_copies_4 (by decide) (fun c_4_276 => ?_) (fun c_4_276 => ?_)
    · have t_4_276 := c_4_276
      try simp only [kb_eq0, kb_ne0, lg_cmp_lt, lg_cmp_le, lg_cmp_gt, lg_cmp_ge, lg_cmp_eq] at t_4_276
      try simp only [Int32.lt_iff_toInt_lt, Int32.le_iff_toInt_le, ← Int32.toInt_inj, Int64.lt_iff_toInt_lt, Int64.le_iff_toInt_le, ← Int64.toInt_inj, Int32.toInt_toInt64, Int32.reduceToInt, Int64.reduceToInt] at t_4_276
      refine lv_aload_n hx hb dX8_copies_10 rfl (lv_at hl 0 rfl) ?_
      refine va_get (D := D) (ci := 8) (v := .int 10) (C := RX8) (T := TX8) (N := 31) hx hb hts iX8_copies_X8 hown hK hP 0 rfl rfl 12 (by decide) (hts (.fieldLink RX8 43 "TapeCalculatorModel" "chosen" "I") (List.mem_of_getElem? (i := 1) rfl)) (fun _ h9 => h9) rfl dX8_copies_11 ?_
      refine lv_bipush (v := 12) hx hb dX8_copies_14 (by decide) ?_
      refine lv_icmp_le (tgt := 73) hx hb dX8_copies_16 (by decide) (fun c_16_277 => ?_) (fun c_16_277 => ?_)
      · have t_16_277 := c_16_277
        try simp only [kb_eq0, kb_ne0, lg_cmp_lt, lg_cmp_le, lg_cmp_gt, lg_cmp_ge, lg_cmp_eq] at t_16_277
        try simp only [Int32.lt_iff_toInt_lt, Int32.le_iff_toInt_le, ← Int32.toInt_inj, Int64.lt_iff_toInt_lt, Int64.le_iff_toInt_le, ← Int64.toInt_inj, Int32.toInt_toInt64, Int32.reduceToInt, Int64.reduceToInt] at t_16_277
        refine lv_aload_n hx hb dX8_copies_73 rfl (lv_at hl 0 rfl) ?_
        refine va_get (D := D) (ci := 8) (v := .int 10) (C := RX8) (T := TX8) (N := 31) hx hb hts iX8_copies_X8 hown hK hP 0 rfl rfl 12 (by decide) (hts (.fieldLink RX8 43 "TapeCalculatorModel" "chosen" "I") (List.mem_of_getElem? (i := 1) rfl)) (fun _ h9 => h9) rfl dX8_copies_74 ?_
        refine lv_bipush (v := 8) hx hb dX8_copies_77 (by decide) ?_
        refine lv_icmp_le (tgt := 109) hx hb dX8_copies_79 (by decide) (fun c_79_278 => ?_) (fun c_79_278 => ?_)
        · exact absurd c_79_278 (by decide)
        · have t_79_278 := c_79_278
          try simp only [kb_eq0, kb_ne0, lg_cmp_lt, lg_cmp_le, lg_cmp_gt, lg_cmp_ge, lg_cmp_eq] at t_79_278
          try simp only [Int32.lt_iff_toInt_lt, Int32.le_iff_toInt_le, ← Int32.toInt_inj, Int64.lt_iff_toInt_lt, Int64.le_iff_toInt_le, ← Int64.toInt_inj, Int32.toInt_toInt64, Int32.reduceToInt, Int64.reduceToInt] at t_79_278
          refine lv_aload_n hx hb dX8_copies_82 rfl (lv_at hl 0 rfl) ?_
          refine lv_aload_n hx hb dX8_copies_83 rfl (lv_at hl 0 rfl) ?_
          refine va_get (D := D) (ci := 8) (v := .int 10) (C := RX8) (T := TX8) (N := 31) hx hb hts iX8_copies_X8 hown hK hP 0 rfl rfl 12 (by decide) (hts (.fieldLink RX8 43 "TapeCalculatorModel" "chosen" "I") (List.mem_of_getElem? (i := 1) rfl)) (fun _ h9 => h9) rfl dX8_copies_84 ?_
          refine lv_bipush (v := 9) hx hb dX8_copies_87 (by decide) ?_
          refine lv_isub hx hb dX8_copies_89 ?_
          refine lv_topi (fun x_280 ex_280 => ?_)
          obtain rfl : x_280 = 1 := ex_280.trans (by decide)
          refine lv_aload_n hx hb dX8_copies_90 rfl (lv_at hl 0 rfl) ?_
          refine kCallL (wr := [(mI, .inl (cL, 1200, .inr (.inl fI))), (mJ, .inl (cI, 4, .inl (k4i j0 j1 j2 j3))), (mS, .inl (cI, 4, .inl (k4i s0 s1 s2 s3))), (mD, .inl (cL, 256, .inr (.inl fD)))]) (va_runV (As := []) (rest := [.int 1, .ref m0]) ⟨hx, hb, hml, hown, hts⟩ (q_operandBits l D cI cL cB cZ cT _ m0 mH mI mJ mS mD mX mA mB mW mL aM aC mM mQ oV pL lI sW dP sT aT 10 iW iH aE mN sZ tS tA tW lS fH (by omega)) (cwV 0 hts gX8_copies_X8_operandBits rfl rfl rfl (by decide +kernel) ⟨Nat.le_of_ble_eq_true rfl, Nat.le_of_ble_eq_true rfl⟩) (kPreV hG hP hD [0, 1] rfl (by decide) 0 8 rfl rfl rfl) rfl rfl hl.1 rfl (lv_room (Nat.le_of_ble_eq_true rfl)) dX8_copies_91 ⟨Nat.le_of_ble_eq_true rfl, Nat.le_of_ble_eq_true rfl⟩) hA hP hD hS [0, 1] [2, 3, 4, 5] rfl rfl (by decide) (by decide) (fun r_281 u_r_281 H locs wr_281 hP hD hS => ?_)
          have hP : va_P D vwCl [(mI, .inl (cL, 1200, .inr (.inl fI))), (mJ, .inl (cI, 4, .inl (k4i j0 j1 j2 j3))), (mS, .inl (cI, 4, .inl (k4i s0 s1 s2 s3))), (mD, .inl (cL, 256, .inr (.inl fD))), (m0, .inr (8, [.ref mH, .int aM, .long aC, .int mM, .long mQ, .int oV, .int pL, .int lI, .int sW, .int dP, .int sT, .long aT, .int 10, .int iW, .ref mI, .ref mJ, .ref mS, .ref mD, .int iH, .int aE, .int mN, .long sZ, .ref mX, .int tS, .int tA, .int tW, .ref mA, .ref mB, .ref mW, .ref mL, .int lS])), (mH, .inl (cI, 512, .inl fH))] H := hP
          have hD : va_D A [(mI, .inl (cL, 1200, .inr (.inl fI))), (mJ, .inl (cI, 4, .inl (k4i j0 j1 j2 j3))), (mS, .inl (cI, 4, .inl (k4i s0 s1 s2 s3))), (mD, .inl (cL, 256, .inr (.inl fD))), (m0, .inr (8, [.ref mH, .int aM, .long aC, .int mM, .long mQ, .int oV, .int pL, .int lI, .int sW, .int dP, .int sT, .long aT, .int 10, .int iW, .ref mI, .ref mJ, .ref mS, .ref mD, .int iH, .int aE, .int mN, .long sZ, .ref mX, .int tS, .int tA, .int tW, .ref mA, .ref mB, .ref mW, .ref mL, .int lS])), (mH, .inl (cI, 512, .inl fH))] := hD
          try dsimp only at wr_281
          try simp only [Int32.reduceToInt, Int64.reduceToInt] at wr_281
          refine kCallI (wr := [(mD, .inl (cL, 256, .inr (.inl fD))), (mH, .inl (cI, 512, .inl fH))]) (va_runV (As := [.int 1, .long r_281]) (rest := []) ⟨hx, hb, hml, hown, hts⟩ (q_puts l D cI cL cB cZ cT _ m0 mH mI mJ mS mD mX mA mB mW mL aM aC mM mQ oV pL lI sW dP sT aT 10 iW iH aE mN sZ tS tA tW lS fI j0 j1 j2 j3 s0 s1 s2 s3 1 r_281 (by omega) (by decide)) (cwV 2 hts gX8_copies_X8_puts rfl rfl rfl (by decide +kernel) ⟨Nat.le_of_ble_eq_true rfl, Nat.le_of_ble_eq_true rfl⟩) (kPreV hG hP hD [4, 0, 1, 2] rfl (by decide) 0 8 rfl rfl rfl) rfl rfl hl.1 rfl (lv_room (Nat.le_of_ble_eq_true rfl)) dX8_copies_94 ⟨Nat.le_of_ble_eq_true rfl, Nat.le_of_ble_eq_true rfl⟩) hA hP hD hS [4, 0, 1, 2] [3, 5] rfl rfl (by decide) (by decide) (fun r_282 u_r_282 H locs wr_282 hP hD hS => ?_)
          have hP : va_P D vwCl [(mD, .inl (cL, 256, .inr (.inl fD))), (mH, .inl (cI, 512, .inl fH)), (m0, .inr (8, [.ref mH, .int aM, .long aC, .int mM, .long mQ, .int oV, .int pL, .int lI, .int sW, .int dP, .int sT, .long aT, .int 10, .int iW, .ref mI, .ref mJ, .ref mS, .ref mD, .int iH, .int aE, .int mN, .long sZ, .ref mX, .int tS, .int tA, .int tW, .ref mA, .ref mB, .ref mW, .ref mL, .int lS])), (mI, .inl (cL, 1200, .inr (.inl u_r_282.1))), (mJ, .inl (cI, 4, .inl (k4i u_r_282.2.1 u_r_282.2.2.1 u_r_282.2.2.2.1 u_r_282.2.2.2.2.1))), (mS, .inl (cI, 4, .inl (k4i u_r_282.2.2.2.2.2.1 u_r_282.2.2.2.2.2.2.1 u_r_282.2.2.2.2.2.2.2.1 u_r_282.2.2.2.2.2.2.2.2)))] H := hP
          have hD : va_D A [(mD, .inl (cL, 256, .inr (.inl fD))), (mH, .inl (cI, 512, .inl fH)), (m0, .inr (8, [.ref mH, .int aM, .long aC, .int mM, .long mQ, .int oV, .int pL, .int lI, .int sW, .int dP, .int sT, .long aT, .int 10, .int iW, .ref mI, .ref mJ, .ref mS, .ref mD, .int iH, .int aE, .int mN, .long sZ, .ref mX, .int tS, .int tA, .int tW, .ref mA, .ref mB, .ref mW, .ref mL, .int lS])), (mI, .inl (cL, 1200, .inr (.inl u_r_282.1))), (mJ, .inl (cI, 4, .inl (k4i u_r_282.2.1 u_r_282.2.2.1 u_r_282.2.2.2.1 u_r_282.2.2.2.2.1))), (mS, .inl (cI, 4, .inl (k4i u_r_282.2.2.2.2.2.1 u_r_282.2.2.2.2.2.2.1 u_r_282.2.2.2.2.2.2.2.1 u_r_282.2.2.2.2.2.2.2.2)))] := hD
          try dsimp only at wr_282
          try simp only [Int32.reduceToInt, Int64.reduceToInt] at wr_282
          refine lv_if_ne (tgt := 102) hx hb dX8_copies_97 (by decide) (fun c_97_282 => ?_) (fun c_97_282 => ?_)
          · have t_97_282 := c_97_282
            try simp only [kb_eq0, kb_ne0, lg_cmp_lt, lg_cmp_le, lg_cmp_gt, lg_cmp_ge, lg_cmp_eq] at t_97_282
            try simp only [Int32.lt_iff_toInt_lt, Int32.le_iff_toInt_le, ← Int32.toInt_inj, Int64.lt_iff_toInt_lt, Int64.le_iff_toInt_le, ← Int64.toInt_inj, Int32.toInt_toInt64, Int32.reduceToInt, Int64.reduceToInt] at t_97_282
            refine lv_aload_n hx hb dX8_copies_102 rfl (lv_at hl 0 rfl) ?_
            refine lv_iconst (v := 1) hx hb dX8_copies_103 (by decide) ?_
            refine va_put (D := D) (ci := 8) (v := .int 1) (ty := .boolean) (C := RX8) (T := TX8) (N := 31) hx hb hts iX8_copies_X8 tyX8 tyX8_ok nmX8 hown hK hP hD hS 2 rfl rfl 13 (by decide) (hts (.fieldLink RX8 115 "TapeCalculatorModel" "isWritten" "Z") (List.mem_of_getElem? (i := 4) rfl)) (fun _ h9 => h9) rfl (by decide +kernel) rfl rfl (Nat.le_of_ble_eq_true rfl) dX8_copies_104 (fun H locs hP hD hS => ?_)
            have hP : va_P D vwCl [(mD, .inl (cL, 256, .inr (.inl fD))), (mH, .inl (cI, 512, .inl fH)), (m0, .inr (8, [.ref mH, .int aM, .long aC, .int mM, .long mQ, .int oV, .int pL, .int lI, .int sW, .int dP, .int sT, .long aT, .int 10, .int 1, .ref mI, .ref mJ, .ref mS, .ref mD, .int iH, .int aE, .int mN, .long sZ, .ref mX, .int tS, .int tA, .int tW, .ref mA, .ref mB, .ref mW, .ref mL, .int lS])), (mI, .inl (cL, 1200, .inr (.inl u_r_282.1))), (mJ, .inl (cI, 4, .inl (k4i u_r_282.2.1 u_r_282.2.2.1 u_r_282.2.2.2.1 u_r_282.2.2.2.2.1))), (mS, .inl (cI, 4, .inl (k4i u_r_282.2.2.2.2.2.1 u_r_282.2.2.2.2.2.2.1 u_r_282.2.2.2.2.2.2.2.1 u_r_282.2.2.2.2.2.2.2.2)))] H := hP
            have hD : va_D A [(mD, .inl (cL, 256, .inr (.inl fD))), (mH, .inl (cI, 512, .inl fH)), (m0, .inr (8, [.ref mH, .int aM, .long aC, .int mM, .long mQ, .int oV, .int pL, .int lI, .int sW, .int dP, .int sT, .long aT, .int 10, .int 1, .ref mI, .ref mJ, .ref mS, .ref mD, .int iH, .int aE, .int mN, .long sZ, .ref mX, .int tS, .int tA, .int tW, .ref mA, .ref mB, .ref mW, .ref mL, .int lS])), (mI, .inl (cL, 1200, .inr (.inl u_r_282.1))), (mJ, .inl (cI, 4, .inl (k4i u_r_282.2.1 u_r_282.2.2.1 u_r_282.2.2.2.1 u_r_282.2.2.2.2.1))), (mS, .inl (cI, 4, .inl (k4i u_r_282.2.2.2.2.2.1 u_r_282.2.2.2.2.2.2.1 u_r_282.2.2.2.2.2.2.2.1 u_r_282.2.2.2.2.2.2.2.2)))] := hD
            refine lv_iconst (v := 0) hx hb dX8_copies_107 (by decide) ?_
            refine kIret (u := (pL, dP, 10, 1, fH, fD, u_r_282.1, u_r_282.2.1, u_r_282.2.2.1, u_r_282.2.2.2.1, u_r_282.2.2.2.2.1, u_r_282.2.2.2.2.2.1, u_r_282.2.2.2.2.2.2.1, u_r_282.2.2.2.2.2.2.2.1, u_r_282.2.2.2.2.2.2.2.2)) hx hb hr rfl hlocks hS dX8_copies_108 ?_ (hP.sub [2, 1, 3, 4, 5, 0] rfl) (hD.sub [2, 1, 3, 4, 5, 0] (by decide) rfl)
            try dsimp only
            try simp only [Int32.reduceToInt, Int64.reduceToInt, true_or, or_true, true_and, and_true]
            repeat' apply And.intro
            all_goals first | assumption | omega
          · have t_97_282 := c_97_282
            try simp only [kb_eq0, kb_ne0, lg_cmp_lt, lg_cmp_le, lg_cmp_gt, lg_cmp_ge, lg_cmp_eq] at t_97_282
            try simp only [Int32.lt_iff_toInt_lt, Int32.le_iff_toInt_le, ← Int32.toInt_inj, Int64.lt_iff_toInt_lt, Int64.le_iff_toInt_le, ← Int64.toInt_inj, Int32.toInt_toInt64, Int32.reduceToInt, Int64.reduceToInt] at t_97_282
            refine lv_iconst (v := 5) hx hb dX8_copies_100 (by decide) ?_
            refine kIret (u := (pL, dP, 10, iW, fH, fD, u_r_282.1, u_r_282.2.1, u_r_282.2.2.1, u_r_282.2.2.2.1, u_r_282.2.2.2.2.1, u_r_282.2.2.2.2.2.1, u_r_282.2.2.2.2.2.2.1, u_r_282.2.2.2.2.2.2.2.1, u_r_282.2.2.2.2.2.2.2.2)) hx hb hr rfl hlocks hS dX8_copies_101 ?_ (hP.sub [2, 1, 3, 4, 5, 0] rfl) (hD.sub [2, 1, 3, 4, 5, 0] (by decide) rfl)
            try dsimp only
            try simp only [Int32.reduceToInt, Int64.reduceToInt, true_or, or_true, true_and, and_true]
            repeat' apply And.intro
            all_goals first | assumption | omega
      · exact absurd (by decide) c_16_277
    · exact absurd c_4_276 (by decide)
  · have hk8 := k_and (x := dP + 1) (m := 255) 8 (by decide) (by decide)
    refine lv_aload_n hx hb dX8_copies_0 rfl (lv_at hl 0 rfl) ?_
    refine va_get (D := D) (ci := 8) (v := .int 11) (C := RX8) (T := TX8) (N := 31) hx hb hts iX8_copies_X8 hown hK hP 0 rfl rfl 12 (by decide) (hts (.fieldLink RX8 43 "TapeCalculatorModel" "chosen" "I") (List.mem_of_getElem? (i := 1) rfl)) (fun _ h9 => h9) rfl dX8_copies_1 ?_
    refine lv_if_ne (tgt := 10) hx hb dX8_copies_4 (by decide) (fun c_4_283 => ?_) (fun c_4_283 => ?_)
    · have t_4_283 := c_4_283
      try simp only [kb_eq0, kb_ne0, lg_cmp_lt, lg_cmp_le, lg_cmp_gt, lg_cmp_ge, lg_cmp_eq] at t_4_283
      try simp only [Int32.lt_iff_toInt_lt, Int32.le_iff_toInt_le, ← Int32.toInt_inj, Int64.lt_iff_toInt_lt, Int64.le_iff_toInt_le, ← Int64.toInt_inj, Int32.toInt_toInt64, Int32.reduceToInt, Int64.reduceToInt] at t_4_283
      refine lv_aload_n hx hb dX8_copies_10 rfl (lv_at hl 0 rfl) ?_
      refine va_get (D := D) (ci := 8) (v := .int 11) (C := RX8) (T := TX8) (N := 31) hx hb hts iX8_copies_X8 hown hK hP 0 rfl rfl 12 (by decide) (hts (.fieldLink RX8 43 "TapeCalculatorModel" "chosen" "I") (List.mem_of_getElem? (i := 1) rfl)) (fun _ h9 => h9) rfl dX8_copies_11 ?_
      refine lv_bipush (v := 12) hx hb dX8_copies_14 (by decide) ?_
      refine lv_icmp_le (tgt := 73) hx hb dX8_copies_16 (by decide) (fun c_16_284 => ?_) (fun c_16_284 => ?_)
      · have t_16_284 := c_16_284
        try simp only [kb_eq0, kb_ne0, lg_cmp_lt, lg_cmp_le, lg_cmp_gt, lg_cmp_ge, lg_cmp_eq] at t_16_284
        try simp only [Int32.lt_iff_toInt_lt, Int32.le_iff_toInt_le, ← Int32.toInt_inj, Int64.lt_iff_toInt_lt, Int64.le_iff_toInt_le, ← Int64.toInt_inj, Int32.toInt_toInt64, Int32.reduceToInt, Int64.reduceToInt] at t_16_284
        refine lv_aload_n hx hb dX8_copies_73 rfl (lv_at hl 0 rfl) ?_
        refine va_get (D := D) (ci := 8) (v := .int 11) (C := RX8) (T := TX8) (N := 31) hx hb hts iX8_copies_X8 hown hK hP 0 rfl rfl 12 (by decide) (hts (.fieldLink RX8 43 "TapeCalculatorModel" "chosen" "I") (List.mem_of_getElem? (i := 1) rfl)) (fun _ h9 => h9) rfl dX8_copies_74 ?_
        refine lv_bipush (v := 8) hx hb dX8_copies_77 (by decide) ?_
        refine lv_icmp_le (tgt := 109) hx hb dX8_copies_79 (by decide) (fun c_79_285 => ?_) (fun c_79_285 => ?_)
        · exact absurd c_79_285 (by decide)
        · have t_79_285 := c_79_285
          try simp only [kb_eq0, kb_ne0, lg_cmp_lt, lg_cmp_le, lg_cmp_gt, lg_cmp_ge, lg_cmp_eq] at t_79_285
          try simp only [Int32.lt_iff_toInt_lt, Int32.le_iff_toInt_le, ← Int32.toInt_inj, Int64.lt_iff_toInt_lt, Int64.le_iff_toInt_le, ← Int64.toInt_inj, Int32.toInt_toInt64, Int32.reduceToInt, Int64.reduceToInt] at t_79_285
          refine lv_aload_n hx hb dX8_copies_82 rfl (lv_at hl 0 rfl) ?_
          refine lv_aload_n hx hb dX8_copies_83 rfl (lv_at hl 0 rfl) ?_
          refine va_get (D := D) (ci := 8) (v := .int 11) (C := RX8) (T := TX8) (N := 31) hx hb hts iX8_copies_X8 hown hK hP 0 rfl rfl 12 (by decide) (hts (.fieldLink RX8 43 "TapeCalculatorModel" "chosen" "I") (List.mem_of_getElem? (i := 1) rfl)) (fun _ h9 => h9) rfl dX8_copies_84 ?_
          refine lv_bipush (v := 9) hx hb dX8_copies_87 (by decide) ?_
          refine lv_isub hx hb dX8_copies_89 ?_
          refine lv_topi (fun x_287 ex_287 => ?_)
          obtain rfl : x_287 = 2 := ex_287.trans (by decide)
          refine lv_aload_n hx hb dX8_copies_90 rfl (lv_at hl 0 rfl) ?_
          refine kCallL (wr := [(mI, .inl (cL, 1200, .inr (.inl fI))), (mJ, .inl (cI, 4, .inl (k4i j0 j1 j2 j3))), (mS, .inl (cI, 4, .inl (k4i s0 s1 s2 s3))), (mD, .inl (cL, 256, .inr (.inl fD)))]) (va_runV (As := []) (rest := [.int 2, .ref m0]) ⟨hx, hb, hml, hown, hts⟩ (q_operandBits l D cI cL cB cZ cT _ m0 mH mI mJ mS mD mX mA mB mW mL aM aC mM mQ oV pL lI sW dP sT aT 11 iW iH aE mN sZ tS tA tW lS fH (by omega)) (cwV 0 hts gX8_copies_X8_operandBits rfl rfl rfl (by decide +kernel) ⟨Nat.le_of_ble_eq_true rfl, Nat.le_of_ble_eq_true rfl⟩) (kPreV hG hP hD [0, 1] rfl (by decide) 0 8 rfl rfl rfl) rfl rfl hl.1 rfl (lv_room (Nat.le_of_ble_eq_true rfl)) dX8_copies_91 ⟨Nat.le_of_ble_eq_true rfl, Nat.le_of_ble_eq_true rfl⟩) hA hP hD hS [0, 1] [2, 3, 4, 5] rfl rfl (by decide) (by decide) (fun r_288 u_r_288 H locs wr_288 hP hD hS => ?_)
          have hP : va_P D vwCl [(mI, .inl (cL, 1200, .inr (.inl fI))), (mJ, .inl (cI, 4, .inl (k4i j0 j1 j2 j3))), (mS, .inl (cI, 4, .inl (k4i s0 s1 s2 s3))), (mD, .inl (cL, 256, .inr (.inl fD))), (m0, .inr (8, [.ref mH, .int aM, .long aC, .int mM, .long mQ, .int oV, .int pL, .int lI, .int sW, .int dP, .int sT, .long aT, .int 11, .int iW, .ref mI, .ref mJ, .ref mS, .ref mD, .int iH, .int aE, .int mN, .long sZ, .ref mX, .int tS, .int tA, .int tW, .ref mA, .ref mB, .ref mW, .ref mL, .int lS])), (mH, .inl (cI, 512, .inl fH))] H := hP
          have hD : va_D A [(mI, .inl (cL, 1200, .inr (.inl fI))), (mJ, .inl (cI, 4, .inl (k4i j0 j1 j2 j3))), (mS, .inl (cI, 4, .inl (k4i s0 s1 s2 s3))), (mD, .inl (cL, 256, .inr (.inl fD))), (m0, .inr (8, [.ref mH, .int aM, .long aC, .int mM, .long mQ, .int oV, .int pL, .int lI, .int sW, .int dP, .int sT, .long aT, .int 11, .int iW, .ref mI, .ref mJ, .ref mS, .ref mD, .int iH, .int aE, .int mN, .long sZ, .ref mX, .int tS, .int tA, .int tW, .ref mA, .ref mB, .ref mW, .ref mL, .int lS])), (mH, .inl (cI, 512, .inl fH))] := hD
          try dsimp only at wr_288
          try simp only [Int32.reduceToInt, Int64.reduceToInt] at wr_288
          refine kCallI (wr := [(mD, .inl (cL, 256, .inr (.inl fD))), (mH, .inl (cI, 512, .inl fH))]) (va_runV (As := [.int 2, .long r_288]) (rest := []) ⟨hx, hb, hml, hown, hts⟩ (q_puts l D cI cL cB cZ cT _ m0 mH mI mJ mS mD mX mA mB mW mL aM aC mM mQ oV pL lI sW dP sT aT 11 iW iH aE mN sZ tS tA tW lS fI j0 j1 j2 j3 s0 s1 s2 s3 2 r_288 (by omega) (by decide)) (cwV 2 hts gX8_copies_X8_puts rfl rfl rfl (by decide +kernel) ⟨Nat.le_of_ble_eq_true rfl, Nat.le_of_ble_eq_true rfl⟩) (kPreV hG hP hD [4, 0, 1, 2] rfl (by decide) 0 8 rfl rfl rfl) rfl rfl hl.1 rfl (lv_room (Nat.le_of_ble_eq_true rfl)) dX8_copies_94 ⟨Nat.le_of_ble_eq_true rfl, Nat.le_of_ble_eq_true rfl⟩) hA hP hD hS [4, 0, 1, 2] [3, 5] rfl rfl (by decide) (by decide) (fun r_289 u_r_289 H locs wr_289 hP hD hS => ?_)
          have hP : va_P D vwCl [(mD, .inl (cL, 256, .inr (.inl fD))), (mH, .inl (cI, 512, .inl fH)), (m0, .inr (8, [.ref mH, .int aM, .long aC, .int mM, .long mQ, .int oV, .int pL, .int lI, .int sW, .int dP, .int sT, .long aT, .int 11, .int iW, .ref mI, .ref mJ, .ref mS, .ref mD, .int iH, .int aE, .int mN, .long sZ, .ref mX, .int tS, .int tA, .int tW, .ref mA, .ref mB, .ref mW, .ref mL, .int lS])), (mI, .inl (cL, 1200, .inr (.inl u_r_289.1))), (mJ, .inl (cI, 4, .inl (k4i u_r_289.2.1 u_r_289.2.2.1 u_r_289.2.2.2.1 u_r_289.2.2.2.2.1))), (mS, .inl (cI, 4, .inl (k4i u_r_289.2.2.2.2.2.1 u_r_289.2.2.2.2.2.2.1 u_r_289.2.2.2.2.2.2.2.1 u_r_289.2.2.2.2.2.2.2.2)))] H := hP
          have hD : va_D A [(mD, .inl (cL, 256, .inr (.inl fD))), (mH, .inl (cI, 512, .inl fH)), (m0, .inr (8, [.ref mH, .int aM, .long aC, .int mM, .long mQ, .int oV, .int pL, .int lI, .int sW, .int dP, .int sT, .long aT, .int 11, .int iW, .ref mI, .ref mJ, .ref mS, .ref mD, .int iH, .int aE, .int mN, .long sZ, .ref mX, .int tS, .int tA, .int tW, .ref mA, .ref mB, .ref mW, .ref mL, .int lS])), (mI, .inl (cL, 1200, .inr (.inl u_r_289.1))), (mJ, .inl (cI, 4, .inl (k4i u_r_289.2.1 u_r_289.2.2.1 u_r_289.2.2.2.1 u_r_289.2.2.2.2.1))), (mS, .inl (cI, 4, .inl (k4i u_r_289.2.2.2.2.2.1 u_r_289.2.2.2.2.2.2.1 u_r_289.2.2.2.2.2.2.2.1 u_r_289.2.2.2.2.2.2.2.2)))] := hD
          try dsimp only at wr_289
          try simp only [Int32.reduceToInt, Int64.reduceToInt] at wr_289
          refine lv_if_ne (tgt := 102) hx hb dX8_copies_97 (by decide) (fun c_97_289 => ?_) (fun c_97_289 => ?_)
          · have t_97_289 := c_97_289
            try simp only [kb_eq0, kb_ne0, lg_cmp_lt, lg_cmp_le, lg_cmp_gt, lg_cmp_ge, lg_cmp_eq] at t_97_289
            try simp only [Int32.lt_iff_toInt_lt, Int32.le_iff_toInt_le, ← Int32.toInt_inj, Int64.lt_iff_toInt_lt, Int64.le_iff_toInt_le, ← Int64.toInt_inj, Int32.toInt_toInt64, Int32.reduceToInt, Int64.reduceToInt] at t_97_289
            refine lv_aload_n hx hb dX8_copies_102 rfl (lv_at hl 0 rfl) ?_
            refine lv_iconst (v := 1) hx hb dX8_copies_103 (by decide) ?_
            refine va_put (D := D) (ci := 8) (v := .int 1) (ty := .boolean) (C := RX8) (T := TX8) (N := 31) hx hb hts iX8_copies_X8 tyX8 tyX8_ok nmX8 hown hK hP hD hS 2 rfl rfl 13 (by decide) (hts (.fieldLink RX8 115 "TapeCalculatorModel" "isWritten" "Z") (List.mem_of_getElem? (i := 4) rfl)) (fun _ h9 => h9) rfl (by decide +kernel) rfl rfl (Nat.le_of_ble_eq_true rfl) dX8_copies_104 (fun H locs hP hD hS => ?_)
            have hP : va_P D vwCl [(mD, .inl (cL, 256, .inr (.inl fD))), (mH, .inl (cI, 512, .inl fH)), (m0, .inr (8, [.ref mH, .int aM, .long aC, .int mM, .long mQ, .int oV, .int pL, .int lI, .int sW, .int dP, .int sT, .long aT, .int 11, .int 1, .ref mI, .ref mJ, .ref mS, .ref mD, .int iH, .int aE, .int mN, .long sZ, .ref mX, .int tS, .int tA, .int tW, .ref mA, .ref mB, .ref mW, .ref mL, .int lS])), (mI, .inl (cL, 1200, .inr (.inl u_r_289.1))), (mJ, .inl (cI, 4, .inl (k4i u_r_289.2.1 u_r_289.2.2.1 u_r_289.2.2.2.1 u_r_289.2.2.2.2.1))), (mS, .inl (cI, 4, .inl (k4i u_r_289.2.2.2.2.2.1 u_r_289.2.2.2.2.2.2.1 u_r_289.2.2.2.2.2.2.2.1 u_r_289.2.2.2.2.2.2.2.2)))] H := hP
            have hD : va_D A [(mD, .inl (cL, 256, .inr (.inl fD))), (mH, .inl (cI, 512, .inl fH)), (m0, .inr (8, [.ref mH, .int aM, .long aC, .int mM, .long mQ, .int oV, .int pL, .int lI, .int sW, .int dP, .int sT, .long aT, .int 11, .int 1, .ref mI, .ref mJ, .ref mS, .ref mD, .int iH, .int aE, .int mN, .long sZ, .ref mX, .int tS, .int tA, .int tW, .ref mA, .ref mB, .ref mW, .ref mL, .int lS])), (mI, .inl (cL, 1200, .inr (.inl u_r_289.1))), (mJ, .inl (cI, 4, .inl (k4i u_r_289.2.1 u_r_289.2.2.1 u_r_289.2.2.2.1 u_r_289.2.2.2.2.1))), (mS, .inl (cI, 4, .inl (k4i u_r_289.2.2.2.2.2.1 u_r_289.2.2.2.2.2.2.1 u_r_289.2.2.2.2.2.2.2.1 u_r_289.2.2.2.2.2.2.2.2)))] := hD
            refine lv_iconst (v := 0) hx hb dX8_copies_107 (by decide) ?_
            refine kIret (u := (pL, dP, 11, 1, fH, fD, u_r_289.1, u_r_289.2.1, u_r_289.2.2.1, u_r_289.2.2.2.1, u_r_289.2.2.2.2.1, u_r_289.2.2.2.2.2.1, u_r_289.2.2.2.2.2.2.1, u_r_289.2.2.2.2.2.2.2.1, u_r_289.2.2.2.2.2.2.2.2)) hx hb hr rfl hlocks hS dX8_copies_108 ?_ (hP.sub [2, 1, 3, 4, 5, 0] rfl) (hD.sub [2, 1, 3, 4, 5, 0] (by decide) rfl)
            try dsimp only
            try simp only [Int32.reduceToInt, Int64.reduceToInt, true_or, or_true, true_and, and_true]
            repeat' apply And.intro
            all_goals first | assumption | omega
          · have t_97_289 := c_97_289
            try simp only [kb_eq0, kb_ne0, lg_cmp_lt, lg_cmp_le, lg_cmp_gt, lg_cmp_ge, lg_cmp_eq] at t_97_289
            try simp only [Int32.lt_iff_toInt_lt, Int32.le_iff_toInt_le, ← Int32.toInt_inj, Int64.lt_iff_toInt_lt, Int64.le_iff_toInt_le, ← Int64.toInt_inj, Int32.toInt_toInt64, Int32.reduceToInt, Int64.reduceToInt] at t_97_289
            refine lv_iconst (v := 5) hx hb dX8_copies_100 (by decide) ?_
            refine kIret (u := (pL, dP, 11, iW, fH, fD, u_r_289.1, u_r_289.2.1, u_r_289.2.2.1, u_r_289.2.2.2.1, u_r_289.2.2.2.2.1, u_r_289.2.2.2.2.2.1, u_r_289.2.2.2.2.2.2.1, u_r_289.2.2.2.2.2.2.2.1, u_r_289.2.2.2.2.2.2.2.2)) hx hb hr rfl hlocks hS dX8_copies_101 ?_ (hP.sub [2, 1, 3, 4, 5, 0] rfl) (hD.sub [2, 1, 3, 4, 5, 0] (by decide) rfl)
            try dsimp only
            try simp only [Int32.reduceToInt, Int64.reduceToInt, true_or, or_true, true_and, and_true]
            repeat' apply And.intro
            all_goals first | assumption | omega
      · exact absurd (by decide) c_16_284
    · exact absurd c_4_283 (by decide)
  · have hk8 := k_and (x := dP + 1) (m := 255) 8 (by decide) (by decide)
    refine lv_aload_n hx hb dX8_copies_0 rfl (lv_at hl 0 rfl) ?_
    refine va_get (D := D) (ci := 8) (v := .int 12) (C := RX8) (T := TX8) (N := 31) hx hb hts iX8_copies_X8 hown hK hP 0 rfl rfl 12 (by decide) (hts (.fieldLink RX8 43 "TapeCalculatorModel" "chosen" "I") (List.mem_of_getElem? (i := 1) rfl)) (fun _ h9 => h9) rfl dX8_copies_1 ?_
    refine lv_if_ne (tgt := 10) hx hb dX8_copies_4 (by decide) (fun c_4_290 => ?_) (fun c_4_290 => ?_)
    · have t_4_290 := c_4_290
      try simp only [kb_eq0, kb_ne0, lg_cmp_lt, lg_cmp_le, lg_cmp_gt, lg_cmp_ge, lg_cmp_eq] at t_4_290
      try simp only [Int32.lt_iff_toInt_lt, Int32.le_iff_toInt_le, ← Int32.toInt_inj, Int64.lt_iff_toInt_lt, Int64.le_iff_toInt_le, ← Int64.toInt_inj, Int32.toInt_toInt64, Int32.reduceToInt, Int64.reduceToInt] at t_4_290
      refine lv_aload_n hx hb dX8_copies_10 rfl (lv_at hl 0 rfl) ?_
      refine va_get (D := D) (ci := 8) (v := .int 12) (C := RX8) (T := TX8) (N := 31) hx hb hts iX8_copies_X8 hown hK hP 0 rfl rfl 12 (by decide) (hts (.fieldLink RX8 43 "TapeCalculatorModel" "chosen" "I") (List.mem_of_getElem? (i := 1) rfl)) (fun _ h9 => h9) rfl dX8_copies_11 ?_
      refine lv_bipush (v := 12) hx hb dX8_copies_14 (by decide) ?_
      refine lv_icmp_le (tgt := 73) hx hb dX8_copies_16 (by decide) (fun c_16_291 => ?_) (fun c_16_291 => ?_)
      · have t_16_291 := c_16_291
        try simp only [kb_eq0, kb_ne0, lg_cmp_lt, lg_cmp_le, lg_cmp_gt, lg_cmp_ge, lg_cmp_eq] at t_16_291
        try simp only [Int32.lt_iff_toInt_lt, Int32.le_iff_toInt_le, ← Int32.toInt_inj, Int64.lt_iff_toInt_lt, Int64.le_iff_toInt_le, ← Int64.toInt_inj, Int32.toInt_toInt64, Int32.reduceToInt, Int64.reduceToInt] at t_16_291
        refine lv_aload_n hx hb dX8_copies_73 rfl (lv_at hl 0 rfl) ?_
        refine va_get (D := D) (ci := 8) (v := .int 12) (C := RX8) (T := TX8) (N := 31) hx hb hts iX8_copies_X8 hown hK hP 0 rfl rfl 12 (by decide) (hts (.fieldLink RX8 43 "TapeCalculatorModel" "chosen" "I") (List.mem_of_getElem? (i := 1) rfl)) (fun _ h9 => h9) rfl dX8_copies_74 ?_
        refine lv_bipush (v := 8) hx hb dX8_copies_77 (by decide) ?_
        refine lv_icmp_le (tgt := 109) hx hb dX8_copies_79 (by decide) (fun c_79_292 => ?_) (fun c_79_292 => ?_)
        · exact absurd c_79_292 (by decide)
        · have t_79_292 := c_79_292
          try simp only [kb_eq0, kb_ne0, lg_cmp_lt, lg_cmp_le, lg_cmp_gt, lg_cmp_ge, lg_cmp_eq] at t_79_292
          try simp only [Int32.lt_iff_toInt_lt, Int32.le_iff_toInt_le, ← Int32.toInt_inj, Int64.lt_iff_toInt_lt, Int64.le_iff_toInt_le, ← Int64.toInt_inj, Int32.toInt_toInt64, Int32.reduceToInt, Int64.reduceToInt] at t_79_292
          refine lv_aload_n hx hb dX8_copies_82 rfl (lv_at hl 0 rfl) ?_
          refine lv_aload_n hx hb dX8_copies_83 rfl (lv_at hl 0 rfl) ?_
          refine va_get (D := D) (ci := 8) (v := .int 12) (C := RX8) (T := TX8) (N := 31) hx hb hts iX8_copies_X8 hown hK hP 0 rfl rfl 12 (by decide) (hts (.fieldLink RX8 43 "TapeCalculatorModel" "chosen" "I") (List.mem_of_getElem? (i := 1) rfl)) (fun _ h9 => h9) rfl dX8_copies_84 ?_
          refine lv_bipush (v := 9) hx hb dX8_copies_87 (by decide) ?_
          refine lv_isub hx hb dX8_copies_89 ?_
          refine lv_topi (fun x_294 ex_294 => ?_)
          obtain rfl : x_294 = 3 := ex_294.trans (by decide)
          refine lv_aload_n hx hb dX8_copies_90 rfl (lv_at hl 0 rfl) ?_
          refine kCallL (wr := [(mI, .inl (cL, 1200, .inr (.inl fI))), (mJ, .inl (cI, 4, .inl (k4i j0 j1 j2 j3))), (mS, .inl (cI, 4, .inl (k4i s0 s1 s2 s3))), (mD, .inl (cL, 256, .inr (.inl fD)))]) (va_runV (As := []) (rest := [.int 3, .ref m0]) ⟨hx, hb, hml, hown, hts⟩ (q_operandBits l D cI cL cB cZ cT _ m0 mH mI mJ mS mD mX mA mB mW mL aM aC mM mQ oV pL lI sW dP sT aT 12 iW iH aE mN sZ tS tA tW lS fH (by omega)) (cwV 0 hts gX8_copies_X8_operandBits rfl rfl rfl (by decide +kernel) ⟨Nat.le_of_ble_eq_true rfl, Nat.le_of_ble_eq_true rfl⟩) (kPreV hG hP hD [0, 1] rfl (by decide) 0 8 rfl rfl rfl) rfl rfl hl.1 rfl (lv_room (Nat.le_of_ble_eq_true rfl)) dX8_copies_91 ⟨Nat.le_of_ble_eq_true rfl, Nat.le_of_ble_eq_true rfl⟩) hA hP hD hS [0, 1] [2, 3, 4, 5] rfl rfl (by decide) (by decide) (fun r_295 u_r_295 H locs wr_295 hP hD hS => ?_)
          have hP : va_P D vwCl [(mI, .inl (cL, 1200, .inr (.inl fI))), (mJ, .inl (cI, 4, .inl (k4i j0 j1 j2 j3))), (mS, .inl (cI, 4, .inl (k4i s0 s1 s2 s3))), (mD, .inl (cL, 256, .inr (.inl fD))), (m0, .inr (8, [.ref mH, .int aM, .long aC, .int mM, .long mQ, .int oV, .int pL, .int lI, .int sW, .int dP, .int sT, .long aT, .int 12, .int iW, .ref mI, .ref mJ, .ref mS, .ref mD, .int iH, .int aE, .int mN, .long sZ, .ref mX, .int tS, .int tA, .int tW, .ref mA, .ref mB, .ref mW, .ref mL, .int lS])), (mH, .inl (cI, 512, .inl fH))] H := hP
          have hD : va_D A [(mI, .inl (cL, 1200, .inr (.inl fI))), (mJ, .inl (cI, 4, .inl (k4i j0 j1 j2 j3))), (mS, .inl (cI, 4, .inl (k4i s0 s1 s2 s3))), (mD, .inl (cL, 256, .inr (.inl fD))), (m0, .inr (8, [.ref mH, .int aM, .long aC, .int mM, .long mQ, .int oV, .int pL, .int lI, .int sW, .int dP, .int sT, .long aT, .int 12, .int iW, .ref mI, .ref mJ, .ref mS, .ref mD, .int iH, .int aE, .int mN, .long sZ, .ref mX, .int tS, .int tA, .int tW, .ref mA, .ref mB, .ref mW, .ref mL, .int lS])), (mH, .inl (cI, 512, .inl fH))] := hD
          try dsimp only at wr_295
          try simp only [Int32.reduceToInt, Int64.reduceToInt] at wr_295
          refine kCallI (wr := [(mD, .inl (cL, 256, .inr (.inl fD))), (mH, .inl (cI, 512, .inl fH))]) (va_runV (As := [.int 3, .long r_295]) (rest := []) ⟨hx, hb, hml, hown, hts⟩ (q_puts l D cI cL cB cZ cT _ m0 mH mI mJ mS mD mX mA mB mW mL aM aC mM mQ oV pL lI sW dP sT aT 12 iW iH aE mN sZ tS tA tW lS fI j0 j1 j2 j3 s0 s1 s2 s3 3 r_295 (by omega) (by decide)) (cwV 2 hts gX8_copies_X8_puts rfl rfl rfl (by decide +kernel) ⟨Nat.le_of_ble_eq_true rfl, Nat.le_of_ble_eq_true rfl⟩) (kPreV hG hP hD [4, 0, 1, 2] rfl (by decide) 0 8 rfl rfl rfl) rfl rfl hl.1 rfl (lv_room (Nat.le_of_ble_eq_true rfl)) dX8_copies_94 ⟨Nat.le_of_ble_eq_true rfl, Nat.le_of_ble_eq_true rfl⟩) hA hP hD hS [4, 0, 1, 2] [3, 5] rfl rfl (by decide) (by decide) (fun r_296 u_r_296 H locs wr_296 hP hD hS => ?_)
          have hP : va_P D vwCl [(mD, .inl (cL, 256, .inr (.inl fD))), (mH, .inl (cI, 512, .inl fH)), (m0, .inr (8, [.ref mH, .int aM, .long aC, .int mM, .long mQ, .int oV, .int pL, .int lI, .int sW, .int dP, .int sT, .long aT, .int 12, .int iW, .ref mI, .ref mJ, .ref mS, .ref mD, .int iH, .int aE, .int mN, .long sZ, .ref mX, .int tS, .int tA, .int tW, .ref mA, .ref mB, .ref mW, .ref mL, .int lS])), (mI, .inl (cL, 1200, .inr (.inl u_r_296.1))), (mJ, .inl (cI, 4, .inl (k4i u_r_296.2.1 u_r_296.2.2.1 u_r_296.2.2.2.1 u_r_296.2.2.2.2.1))), (mS, .inl (cI, 4, .inl (k4i u_r_296.2.2.2.2.2.1 u_r_296.2.2.2.2.2.2.1 u_r_296.2.2.2.2.2.2.2.1 u_r_296.2.2.2.2.2.2.2.2)))] H := hP
          have hD : va_D A [(mD, .inl (cL, 256, .inr (.inl fD))), (mH, .inl (cI, 512, .inl fH)), (m0, .inr (8, [.ref mH, .int aM, .long aC, .int mM, .long mQ, .int oV, .int pL, .int lI, .int sW, .int dP, .int sT, .long aT, .int 12, .int iW, .ref mI, .ref mJ, .ref mS, .ref mD, .int iH, .int aE, .int mN, .long sZ, .ref mX, .int tS, .int tA, .int tW, .ref mA, .ref mB, .ref mW, .ref mL, .int lS])), (mI, .inl (cL, 1200, .inr (.inl u_r_296.1))), (mJ, .inl (cI, 4, .inl (k4i u_r_296.2.1 u_r_296.2.2.1 u_r_296.2.2.2.1 u_r_296.2.2.2.2.1))), (mS, .inl (cI, 4, .inl (k4i u_r_296.2.2.2.2.2.1 u_r_296.2.2.2.2.2.2.1 u_r_296.2.2.2.2.2.2.2.1 u_r_296.2.2.2.2.2.2.2.2)))] := hD
          try dsimp only at wr_296
          try simp only [Int32.reduceToInt, Int64.reduceToInt] at wr_296
          refine lv_if_ne (tgt := 102) hx hb dX8_copies_97 (by decide) (fun c_97_296 => ?_) (fun c_97_296 => ?_)
          · have t_97_296 := c_97_296
            try simp only [kb_eq0, kb_ne0, lg_cmp_lt, lg_cmp_le, lg_cmp_gt, lg_cmp_ge, lg_cmp_eq] at t_97_296
            try simp only [Int32.lt_iff_toInt_lt, Int32.le_iff_toInt_le, ← Int32.toInt_inj, Int64.lt_iff_toInt_lt, Int64.le_iff_toInt_le, ← Int64.toInt_inj, Int32.toInt_toInt64, Int32.reduceToInt, Int64.reduceToInt] at t_97_296
            refine lv_aload_n hx hb dX8_copies_102 rfl (lv_at hl 0 rfl) ?_
            refine lv_iconst (v := 1) hx hb dX8_copies_103 (by decide) ?_
            refine va_put (D := D) (ci := 8) (v := .int 1) (ty := .boolean) (C := RX8) (T := TX8) (N := 31) hx hb hts iX8_copies_X8 tyX8 tyX8_ok nmX8 hown hK hP hD hS 2 rfl rfl 13 (by decide) (hts (.fieldLink RX8 115 "TapeCalculatorModel" "isWritten" "Z") (List.mem_of_getElem? (i := 4) rfl)) (fun _ h9 => h9) rfl (by decide +kernel) rfl rfl (Nat.le_of_ble_eq_true rfl) dX8_copies_104 (fun H locs hP hD hS => ?_)
            have hP : va_P D vwCl [(mD, .inl (cL, 256, .inr (.inl fD))), (mH, .inl (cI, 512, .inl fH)), (m0, .inr (8, [.ref mH, .int aM, .long aC, .int mM, .long mQ, .int oV, .int pL, .int lI, .int sW, .int dP, .int sT, .long aT, .int 12, .int 1, .ref mI, .ref mJ, .ref mS, .ref mD, .int iH, .int aE, .int mN, .long sZ, .ref mX, .int tS, .int tA, .int tW, .ref mA, .ref mB, .ref mW, .ref mL, .int lS])), (mI, .inl (cL, 1200, .inr (.inl u_r_296.1))), (mJ, .inl (cI, 4, .inl (k4i u_r_296.2.1 u_r_296.2.2.1 u_r_296.2.2.2.1 u_r_296.2.2.2.2.1))), (mS, .inl (cI, 4, .inl (k4i u_r_296.2.2.2.2.2.1 u_r_296.2.2.2.2.2.2.1 u_r_296.2.2.2.2.2.2.2.1 u_r_296.2.2.2.2.2.2.2.2)))] H := hP
            have hD : va_D A [(mD, .inl (cL, 256, .inr (.inl fD))), (mH, .inl (cI, 512, .inl fH)), (m0, .inr (8, [.ref mH, .int aM, .long aC, .int mM, .long mQ, .int oV, .int pL, .int lI, .int sW, .int dP, .int sT, .long aT, .int 12, .int 1, .ref mI, .ref mJ, .ref mS, .ref mD, .int iH, .int aE, .int mN, .long sZ, .ref mX, .int tS, .int tA, .int tW, .ref mA, .ref mB, .ref mW, .ref mL, .int lS])), (mI, .inl (cL, 1200, .inr (.inl u_r_296.1))), (mJ, .inl (cI, 4, .inl (k4i u_r_296.2.1 u_r_296.2.2.1 u_r_296.2.2.2.1 u_r_296.2.2.2.2.1))), (mS, .inl (cI, 4, .inl (k4i u_r_296.2.2.2.2.2.1 u_r_296.2.2.2.2.2.2.1 u_r_296.2.2.2.2.2.2.2.1 u_r_296.2.2.2.2.2.2.2.2)))] := hD
            refine lv_iconst (v := 0) hx hb dX8_copies_107 (by decide) ?_
            refine kIret (u := (pL, dP, 12, 1, fH, fD, u_r_296.1, u_r_296.2.1, u_r_296.2.2.1, u_r_296.2.2.2.1, u_r_296.2.2.2.2.1, u_r_296.2.2.2.2.2.1, u_r_296.2.2.2.2.2.2.1, u_r_296.2.2.2.2.2.2.2.1, u_r_296.2.2.2.2.2.2.2.2)) hx hb hr rfl hlocks hS dX8_copies_108 ?_ (hP.sub [2, 1, 3, 4, 5, 0] rfl) (hD.sub [2, 1, 3, 4, 5, 0] (by decide) rfl)
            try dsimp only
            try simp only [Int32.reduceToInt, Int64.reduceToInt, true_or, or_true, true_and, and_true]
            repeat' apply And.intro
            all_goals first | assumption | omega
          · have t_97_296 := c_97_296
            try simp only [kb_eq0, kb_ne0, lg_cmp_lt, lg_cmp_le, lg_cmp_gt, lg_cmp_ge, lg_cmp_eq] at t_97_296
            try simp only [Int32.lt_iff_toInt_lt, Int32.le_iff_toInt_le, ← Int32.toInt_inj, Int64.lt_iff_toInt_lt, Int64.le_iff_toInt_le, ← Int64.toInt_inj, Int32.toInt_toInt64, Int32.reduceToInt, Int64.reduceToInt] at t_97_296
            refine lv_iconst (v := 5) hx hb dX8_copies_100 (by decide) ?_
            refine kIret (u := (pL, dP, 12, iW, fH, fD, u_r_296.1, u_r_296.2.1, u_r_296.2.2.1, u_r_296.2.2.2.1, u_r_296.2.2.2.2.1, u_r_296.2.2.2.2.2.1, u_r_296.2.2.2.2.2.2.1, u_r_296.2.2.2.2.2.2.2.1, u_r_296.2.2.2.2.2.2.2.2)) hx hb hr rfl hlocks hS dX8_copies_101 ?_ (hP.sub [2, 1, 3, 4, 5, 0] rfl) (hD.sub [2, 1, 3, 4, 5, 0] (by decide) rfl)
            try dsimp only
            try simp only [Int32.reduceToInt, Int64.reduceToInt, true_or, or_true, true_and, and_true]
            repeat' apply And.intro
            all_goals first | assumption | omega
      · exact absurd (by decide) c_16_291
    · exact absurd c_4_290 (by decide)
  · have hk8 := k_and (x := dP + 1) (m := 255) 8 (by decide) (by decide)
    refine lv_aload_n hx hb dX8_copies_0 rfl (lv_at hl 0 rfl) ?_
    refine va_get (D := D) (ci := 8) (v := .int 13) (C := RX8) (T := TX8) (N := 31) hx hb hts iX8_copies_X8 hown hK hP 0 rfl rfl 12 (by decide) (hts (.fieldLink RX8 43 "TapeCalculatorModel" "chosen" "I") (List.mem_of_getElem? (i := 1) rfl)) (fun _ h9 => h9) rfl dX8_copies_1 ?_
    refine lv_if_ne (tgt := 10) hx hb dX8_copies_4 (by decide) (fun c_4_297 => ?_) (fun c_4_297 => ?_)
    · have t_4_297 := c_4_297
      try simp only [kb_eq0, kb_ne0, lg_cmp_lt, lg_cmp_le, lg_cmp_gt, lg_cmp_ge, lg_cmp_eq] at t_4_297
      try simp only [Int32.lt_iff_toInt_lt, Int32.le_iff_toInt_le, ← Int32.toInt_inj, Int64.lt_iff_toInt_lt, Int64.le_iff_toInt_le, ← Int64.toInt_inj, Int32.toInt_toInt64, Int32.reduceToInt, Int64.reduceToInt] at t_4_297
      refine lv_aload_n hx hb dX8_copies_10 rfl (lv_at hl 0 rfl) ?_
      refine va_get (D := D) (ci := 8) (v := .int 13) (C := RX8) (T := TX8) (N := 31) hx hb hts iX8_copies_X8 hown hK hP 0 rfl rfl 12 (by decide) (hts (.fieldLink RX8 43 "TapeCalculatorModel" "chosen" "I") (List.mem_of_getElem? (i := 1) rfl)) (fun _ h9 => h9) rfl dX8_copies_11 ?_
      refine lv_bipush (v := 12) hx hb dX8_copies_14 (by decide) ?_
      refine lv_icmp_le (tgt := 73) hx hb dX8_copies_16 (by decide) (fun c_16_298 => ?_) (fun c_16_298 => ?_)
      · exact absurd c_16_298 (by decide)
      · have t_16_298 := c_16_298
        try simp only [kb_eq0, kb_ne0, lg_cmp_lt, lg_cmp_le, lg_cmp_gt, lg_cmp_ge, lg_cmp_eq] at t_16_298
        try simp only [Int32.lt_iff_toInt_lt, Int32.le_iff_toInt_le, ← Int32.toInt_inj, Int64.lt_iff_toInt_lt, Int64.le_iff_toInt_le, ← Int64.toInt_inj, Int32.toInt_toInt64, Int32.reduceToInt, Int64.reduceToInt] at t_16_298
        refine lv_aload_n hx hb dX8_copies_19 rfl (lv_at hl 0 rfl) ?_
        refine va_get (D := D) (ci := 8) (v := .int 13) (C := RX8) (T := TX8) (N := 31) hx hb hts iX8_copies_X8 hown hK hP 0 rfl rfl 12 (by decide) (hts (.fieldLink RX8 43 "TapeCalculatorModel" "chosen" "I") (List.mem_of_getElem? (i := 1) rfl)) (fun _ h9 => h9) rfl dX8_copies_20 ?_
        refine lv_bipush (v := 13) hx hb dX8_copies_23 (by decide) ?_
        refine lv_icmp_ne (tgt := 44) hx hb dX8_copies_25 (by decide) (fun c_25_299 => ?_) (fun c_25_299 => ?_)
        · exact absurd (by decide) c_25_299
        · have t_25_299 := c_25_299
          try simp only [kb_eq0, kb_ne0, lg_cmp_lt, lg_cmp_le, lg_cmp_gt, lg_cmp_ge, lg_cmp_eq] at t_25_299
          try simp only [Int32.lt_iff_toInt_lt, Int32.le_iff_toInt_le, ← Int32.toInt_inj, Int64.lt_iff_toInt_lt, Int64.le_iff_toInt_le, ← Int64.toInt_inj, Int32.toInt_toInt64, Int32.reduceToInt, Int64.reduceToInt] at t_25_299
          refine lv_aload_n hx hb dX8_copies_28 rfl (lv_at hl 0 rfl) ?_
          refine lv_aload_n hx hb dX8_copies_29 rfl (lv_at hl 0 rfl) ?_
          refine va_get (D := D) (ci := 8) (v := .ref mD) (C := RX8) (T := TX8) (N := 31) hx hb hts iX8_copies_X8 hown hK hP 0 rfl rfl 17 (by decide) (hts (.fieldLink RX8 23 "TapeCalculatorModel" "drum" "[J") (List.mem_of_getElem? (i := 2) rfl)) (fun _ h9 => h9) rfl dX8_copies_30 ?_
          refine lv_aload_n hx hb dX8_copies_33 rfl (lv_at hl 0 rfl) ?_
          refine va_get (D := D) (ci := 8) (v := .int dP) (C := RX8) (T := TX8) (N := 31) hx hb hts iX8_copies_X8 hown hK hP 0 rfl rfl 9 (by decide) (hts (.fieldLink RX8 84 "TapeCalculatorModel" "drumPlace" "I") (List.mem_of_getElem? (i := 3) rfl)) (fun _ h9 => h9) rfl dX8_copies_34 ?_
          refine va_lald hx hb hK hP 5 1 rfl rfl (vp_in_iff.mpr (by omega)) dX8_copies_37 ?_
          refine kCallVd (wr := [(mI, .inl (cL, 1200, .inr (.inl fI))), (mJ, .inl (cI, 4, .inl (k4i j0 j1 j2 j3))), (mS, .inl (cI, 4, .inl (k4i s0 s1 s2 s3))), (mD, .inl (cL, 256, .inr (.inl fD)))]) (va_runV (As := [.long (fD dP.toNatClampNeg)]) (rest := []) ⟨hx, hb, hml, hown, hts⟩ (q_store l D cI cL cB cZ cT _ m0 mH mI mJ mS mD mX mA mB mW mL aM aC mM mQ oV pL lI sW dP sT aT 13 iW iH aE mN sZ tS tA tW lS fH (fD dP.toNatClampNeg) (by omega)) (cwV 1 hts gX8_copies_X8_store rfl rfl rfl (by decide +kernel) ⟨Nat.le_of_ble_eq_true rfl, Nat.le_of_ble_eq_true rfl⟩) (kPreV hG hP hD [0, 1] rfl (by decide) 0 8 rfl rfl rfl) rfl rfl hl.1 rfl (lv_room (Nat.le_of_ble_eq_true rfl)) dX8_copies_38 ⟨Nat.le_of_ble_eq_true rfl, Nat.le_of_ble_eq_true rfl⟩) hA hP hD hS [0, 1] [2, 3, 4, 5] rfl rfl (by decide) (by decide) (fun _ u_r_301 H locs wr_301 hP hD hS => ?_)
          have hP : va_P D vwCl [(mI, .inl (cL, 1200, .inr (.inl fI))), (mJ, .inl (cI, 4, .inl (k4i j0 j1 j2 j3))), (mS, .inl (cI, 4, .inl (k4i s0 s1 s2 s3))), (mD, .inl (cL, 256, .inr (.inl fD))), (m0, .inr (8, [.ref mH, .int aM, .long aC, .int mM, .long mQ, .int oV, .int pL, .int lI, .int sW, .int dP, .int sT, .long aT, .int 13, .int iW, .ref mI, .ref mJ, .ref mS, .ref mD, .int iH, .int aE, .int mN, .long sZ, .ref mX, .int tS, .int tA, .int tW, .ref mA, .ref mB, .ref mW, .ref mL, .int lS])), (mH, .inl (cI, 512, .inl u_r_301))] H := hP
          have hD : va_D A [(mI, .inl (cL, 1200, .inr (.inl fI))), (mJ, .inl (cI, 4, .inl (k4i j0 j1 j2 j3))), (mS, .inl (cI, 4, .inl (k4i s0 s1 s2 s3))), (mD, .inl (cL, 256, .inr (.inl fD))), (m0, .inr (8, [.ref mH, .int aM, .long aC, .int mM, .long mQ, .int oV, .int pL, .int lI, .int sW, .int dP, .int sT, .long aT, .int 13, .int iW, .ref mI, .ref mJ, .ref mS, .ref mD, .int iH, .int aE, .int mN, .long sZ, .ref mX, .int tS, .int tA, .int tW, .ref mA, .ref mB, .ref mW, .ref mL, .int lS])), (mH, .inl (cI, 512, .inl u_r_301))] := hD
          try dsimp only at wr_301
          try simp only [Int32.reduceToInt, Int64.reduceToInt] at wr_301
          refine lv_goto (tgt := 57) hx hb dX8_copies_41 (by decide) ?_
          refine lv_aload_n hx hb dX8_copies_57 rfl (lv_at hl 0 rfl) ?_
          refine lv_aload_n hx hb dX8_copies_58 rfl (lv_at hl 0 rfl) ?_
          refine va_get (D := D) (ci := 8) (v := .int dP) (C := RX8) (T := TX8) (N := 31) hx hb hts iX8_copies_X8 hown hK hP 4 rfl rfl 9 (by decide) (hts (.fieldLink RX8 84 "TapeCalculatorModel" "drumPlace" "I") (List.mem_of_getElem? (i := 3) rfl)) (fun _ h9 => h9) rfl dX8_copies_59 ?_
          refine lv_iconst (v := 1) hx hb dX8_copies_62 (by decide) ?_
          refine lv_iadd hx hb dX8_copies_63 ?_
          refine lv_sipush (v := 255) hx hb dX8_copies_64 (by decide) ?_
          refine lv_iand hx hb dX8_copies_67 ?_
          refine lv_topi (fun x_302 ex_302 => ?_)
          refine va_put (D := D) (ci := 8) (v := .int x_302) (ty := .int) (C := RX8) (T := TX8) (N := 31) hx hb hts iX8_copies_X8 tyX8 tyX8_ok nmX8 hown hK hP hD hS 4 rfl rfl 9 (by decide) (hts (.fieldLink RX8 84 "TapeCalculatorModel" "drumPlace" "I") (List.mem_of_getElem? (i := 3) rfl)) (fun _ h9 => h9) rfl (by decide +kernel) rfl rfl (Nat.le_of_ble_eq_true rfl) dX8_copies_68 (fun H locs hP hD hS => ?_)
          have hP : va_P D vwCl [(mI, .inl (cL, 1200, .inr (.inl fI))), (mJ, .inl (cI, 4, .inl (k4i j0 j1 j2 j3))), (mS, .inl (cI, 4, .inl (k4i s0 s1 s2 s3))), (mD, .inl (cL, 256, .inr (.inl fD))), (m0, .inr (8, [.ref mH, .int aM, .long aC, .int mM, .long mQ, .int oV, .int pL, .int lI, .int sW, .int x_302, .int sT, .long aT, .int 13, .int iW, .ref mI, .ref mJ, .ref mS, .ref mD, .int iH, .int aE, .int mN, .long sZ, .ref mX, .int tS, .int tA, .int tW, .ref mA, .ref mB, .ref mW, .ref mL, .int lS])), (mH, .inl (cI, 512, .inl u_r_301))] H := hP
          have hD : va_D A [(mI, .inl (cL, 1200, .inr (.inl fI))), (mJ, .inl (cI, 4, .inl (k4i j0 j1 j2 j3))), (mS, .inl (cI, 4, .inl (k4i s0 s1 s2 s3))), (mD, .inl (cL, 256, .inr (.inl fD))), (m0, .inr (8, [.ref mH, .int aM, .long aC, .int mM, .long mQ, .int oV, .int pL, .int lI, .int sW, .int x_302, .int sT, .long aT, .int 13, .int iW, .ref mI, .ref mJ, .ref mS, .ref mD, .int iH, .int aE, .int mN, .long sZ, .ref mX, .int tS, .int tA, .int tW, .ref mA, .ref mB, .ref mW, .ref mL, .int lS])), (mH, .inl (cI, 512, .inl u_r_301))] := hD
          refine lv_iconst (v := 0) hx hb dX8_copies_71 (by decide) ?_
          refine kIret (u := (pL, x_302, 13, iW, u_r_301, fD, fI, j0, j1, j2, j3, s0, s1, s2, s3)) hx hb hr rfl hlocks hS dX8_copies_72 ?_ (hP.sub [4, 5, 0, 1, 2, 3] rfl) (hD.sub [4, 5, 0, 1, 2, 3] (by decide) rfl)
          try dsimp only
          try simp only [Int32.reduceToInt, Int64.reduceToInt, true_or, or_true, true_and, and_true]
          try rw [← ex_302] at hk8
          repeat' apply And.intro
          all_goals first | assumption | omega
    · exact absurd c_4_297 (by decide)
  · have hk8 := k_and (x := dP + 1) (m := 255) 8 (by decide) (by decide)
    refine lv_aload_n hx hb dX8_copies_0 rfl (lv_at hl 0 rfl) ?_
    refine va_get (D := D) (ci := 8) (v := .int 14) (C := RX8) (T := TX8) (N := 31) hx hb hts iX8_copies_X8 hown hK hP 0 rfl rfl 12 (by decide) (hts (.fieldLink RX8 43 "TapeCalculatorModel" "chosen" "I") (List.mem_of_getElem? (i := 1) rfl)) (fun _ h9 => h9) rfl dX8_copies_1 ?_
    refine lv_if_ne (tgt := 10) hx hb dX8_copies_4 (by decide) (fun c_4_302 => ?_) (fun c_4_302 => ?_)
    · have t_4_302 := c_4_302
      try simp only [kb_eq0, kb_ne0, lg_cmp_lt, lg_cmp_le, lg_cmp_gt, lg_cmp_ge, lg_cmp_eq] at t_4_302
      try simp only [Int32.lt_iff_toInt_lt, Int32.le_iff_toInt_le, ← Int32.toInt_inj, Int64.lt_iff_toInt_lt, Int64.le_iff_toInt_le, ← Int64.toInt_inj, Int32.toInt_toInt64, Int32.reduceToInt, Int64.reduceToInt] at t_4_302
      refine lv_aload_n hx hb dX8_copies_10 rfl (lv_at hl 0 rfl) ?_
      refine va_get (D := D) (ci := 8) (v := .int 14) (C := RX8) (T := TX8) (N := 31) hx hb hts iX8_copies_X8 hown hK hP 0 rfl rfl 12 (by decide) (hts (.fieldLink RX8 43 "TapeCalculatorModel" "chosen" "I") (List.mem_of_getElem? (i := 1) rfl)) (fun _ h9 => h9) rfl dX8_copies_11 ?_
      refine lv_bipush (v := 12) hx hb dX8_copies_14 (by decide) ?_
      refine lv_icmp_le (tgt := 73) hx hb dX8_copies_16 (by decide) (fun c_16_303 => ?_) (fun c_16_303 => ?_)
      · exact absurd c_16_303 (by decide)
      · have t_16_303 := c_16_303
        try simp only [kb_eq0, kb_ne0, lg_cmp_lt, lg_cmp_le, lg_cmp_gt, lg_cmp_ge, lg_cmp_eq] at t_16_303
        try simp only [Int32.lt_iff_toInt_lt, Int32.le_iff_toInt_le, ← Int32.toInt_inj, Int64.lt_iff_toInt_lt, Int64.le_iff_toInt_le, ← Int64.toInt_inj, Int32.toInt_toInt64, Int32.reduceToInt, Int64.reduceToInt] at t_16_303
        refine lv_aload_n hx hb dX8_copies_19 rfl (lv_at hl 0 rfl) ?_
        refine va_get (D := D) (ci := 8) (v := .int 14) (C := RX8) (T := TX8) (N := 31) hx hb hts iX8_copies_X8 hown hK hP 0 rfl rfl 12 (by decide) (hts (.fieldLink RX8 43 "TapeCalculatorModel" "chosen" "I") (List.mem_of_getElem? (i := 1) rfl)) (fun _ h9 => h9) rfl dX8_copies_20 ?_
        refine lv_bipush (v := 13) hx hb dX8_copies_23 (by decide) ?_
        refine lv_icmp_ne (tgt := 44) hx hb dX8_copies_25 (by decide) (fun c_25_304 => ?_) (fun c_25_304 => ?_)
        · have t_25_304 := c_25_304
          try simp only [kb_eq0, kb_ne0, lg_cmp_lt, lg_cmp_le, lg_cmp_gt, lg_cmp_ge, lg_cmp_eq] at t_25_304
          try simp only [Int32.lt_iff_toInt_lt, Int32.le_iff_toInt_le, ← Int32.toInt_inj, Int64.lt_iff_toInt_lt, Int64.le_iff_toInt_le, ← Int64.toInt_inj, Int32.toInt_toInt64, Int32.reduceToInt, Int64.reduceToInt] at t_25_304
          refine lv_aload_n hx hb dX8_copies_44 rfl (lv_at hl 0 rfl) ?_
          refine va_get (D := D) (ci := 8) (v := .ref mD) (C := RX8) (T := TX8) (N := 31) hx hb hts iX8_copies_X8 hown hK hP 0 rfl rfl 17 (by decide) (hts (.fieldLink RX8 23 "TapeCalculatorModel" "drum" "[J") (List.mem_of_getElem? (i := 2) rfl)) (fun _ h9 => h9) rfl dX8_copies_45 ?_
          refine lv_aload_n hx hb dX8_copies_48 rfl (lv_at hl 0 rfl) ?_
          refine va_get (D := D) (ci := 8) (v := .int dP) (C := RX8) (T := TX8) (N := 31) hx hb hts iX8_copies_X8 hown hK hP 0 rfl rfl 9 (by decide) (hts (.fieldLink RX8 84 "TapeCalculatorModel" "drumPlace" "I") (List.mem_of_getElem? (i := 3) rfl)) (fun _ h9 => h9) rfl dX8_copies_49 ?_
          refine lv_aload_n hx hb dX8_copies_52 rfl (lv_at hl 0 rfl) ?_
          refine kCallL (wr := [(mI, .inl (cL, 1200, .inr (.inl fI))), (mJ, .inl (cI, 4, .inl (k4i j0 j1 j2 j3))), (mS, .inl (cI, 4, .inl (k4i s0 s1 s2 s3))), (mD, .inl (cL, 256, .inr (.inl fD)))]) (va_runV (As := []) (rest := [.int dP, .ref mD]) ⟨hx, hb, hml, hown, hts⟩ (q_operandBits l D cI cL cB cZ cT _ m0 mH mI mJ mS mD mX mA mB mW mL aM aC mM mQ oV pL lI sW dP sT aT 14 iW iH aE mN sZ tS tA tW lS fH (by omega)) (cwV 0 hts gX8_copies_X8_operandBits rfl rfl rfl (by decide +kernel) ⟨Nat.le_of_ble_eq_true rfl, Nat.le_of_ble_eq_true rfl⟩) (kPreV hG hP hD [0, 1] rfl (by decide) 0 8 rfl rfl rfl) rfl rfl hl.1 rfl (lv_room (Nat.le_of_ble_eq_true rfl)) dX8_copies_53 ⟨Nat.le_of_ble_eq_true rfl, Nat.le_of_ble_eq_true rfl⟩) hA hP hD hS [0, 1] [2, 3, 4, 5] rfl rfl (by decide) (by decide) (fun r_306 u_r_306 H locs wr_306 hP hD hS => ?_)
          have hP : va_P D vwCl [(mI, .inl (cL, 1200, .inr (.inl fI))), (mJ, .inl (cI, 4, .inl (k4i j0 j1 j2 j3))), (mS, .inl (cI, 4, .inl (k4i s0 s1 s2 s3))), (mD, .inl (cL, 256, .inr (.inl fD))), (m0, .inr (8, [.ref mH, .int aM, .long aC, .int mM, .long mQ, .int oV, .int pL, .int lI, .int sW, .int dP, .int sT, .long aT, .int 14, .int iW, .ref mI, .ref mJ, .ref mS, .ref mD, .int iH, .int aE, .int mN, .long sZ, .ref mX, .int tS, .int tA, .int tW, .ref mA, .ref mB, .ref mW, .ref mL, .int lS])), (mH, .inl (cI, 512, .inl fH))] H := hP
          have hD : va_D A [(mI, .inl (cL, 1200, .inr (.inl fI))), (mJ, .inl (cI, 4, .inl (k4i j0 j1 j2 j3))), (mS, .inl (cI, 4, .inl (k4i s0 s1 s2 s3))), (mD, .inl (cL, 256, .inr (.inl fD))), (m0, .inr (8, [.ref mH, .int aM, .long aC, .int mM, .long mQ, .int oV, .int pL, .int lI, .int sW, .int dP, .int sT, .long aT, .int 14, .int iW, .ref mI, .ref mJ, .ref mS, .ref mD, .int iH, .int aE, .int mN, .long sZ, .ref mX, .int tS, .int tA, .int tW, .ref mA, .ref mB, .ref mW, .ref mL, .int lS])), (mH, .inl (cI, 512, .inl fH))] := hD
          try dsimp only at wr_306
          try simp only [Int32.reduceToInt, Int64.reduceToInt] at wr_306
          refine va_last hx hb hK hP hD hS 3 1 rfl rfl (vp_in_iff.mpr (by omega)) dX8_copies_56 (fun H locs hP hD hS => ?_)
          have hP : va_P D vwCl [(mI, .inl (cL, 1200, .inr (.inl fI))), (mJ, .inl (cI, 4, .inl (k4i j0 j1 j2 j3))), (mS, .inl (cI, 4, .inl (k4i s0 s1 s2 s3))), (mD, .inl (cL, 256, .inr (.inl (vp_updL fD dP.toNatClampNeg r_306)))), (m0, .inr (8, [.ref mH, .int aM, .long aC, .int mM, .long mQ, .int oV, .int pL, .int lI, .int sW, .int dP, .int sT, .long aT, .int 14, .int iW, .ref mI, .ref mJ, .ref mS, .ref mD, .int iH, .int aE, .int mN, .long sZ, .ref mX, .int tS, .int tA, .int tW, .ref mA, .ref mB, .ref mW, .ref mL, .int lS])), (mH, .inl (cI, 512, .inl fH))] H := hP
          have hD : va_D A [(mI, .inl (cL, 1200, .inr (.inl fI))), (mJ, .inl (cI, 4, .inl (k4i j0 j1 j2 j3))), (mS, .inl (cI, 4, .inl (k4i s0 s1 s2 s3))), (mD, .inl (cL, 256, .inr (.inl (vp_updL fD dP.toNatClampNeg r_306)))), (m0, .inr (8, [.ref mH, .int aM, .long aC, .int mM, .long mQ, .int oV, .int pL, .int lI, .int sW, .int dP, .int sT, .long aT, .int 14, .int iW, .ref mI, .ref mJ, .ref mS, .ref mD, .int iH, .int aE, .int mN, .long sZ, .ref mX, .int tS, .int tA, .int tW, .ref mA, .ref mB, .ref mW, .ref mL, .int lS])), (mH, .inl (cI, 512, .inl fH))] := hD
          refine lv_aload_n hx hb dX8_copies_57 rfl (lv_at hl 0 rfl) ?_
          refine lv_aload_n hx hb dX8_copies_58 rfl (lv_at hl 0 rfl) ?_
          refine va_get (D := D) (ci := 8) (v := .int dP) (C := RX8) (T := TX8) (N := 31) hx hb hts iX8_copies_X8 hown hK hP 4 rfl rfl 9 (by decide) (hts (.fieldLink RX8 84 "TapeCalculatorModel" "drumPlace" "I") (List.mem_of_getElem? (i := 3) rfl)) (fun _ h9 => h9) rfl dX8_copies_59 ?_
          refine lv_iconst (v := 1) hx hb dX8_copies_62 (by decide) ?_
          refine lv_iadd hx hb dX8_copies_63 ?_
          refine lv_sipush (v := 255) hx hb dX8_copies_64 (by decide) ?_
          refine lv_iand hx hb dX8_copies_67 ?_
          refine lv_topi (fun x_307 ex_307 => ?_)
          refine va_put (D := D) (ci := 8) (v := .int x_307) (ty := .int) (C := RX8) (T := TX8) (N := 31) hx hb hts iX8_copies_X8 tyX8 tyX8_ok nmX8 hown hK hP hD hS 4 rfl rfl 9 (by decide) (hts (.fieldLink RX8 84 "TapeCalculatorModel" "drumPlace" "I") (List.mem_of_getElem? (i := 3) rfl)) (fun _ h9 => h9) rfl (by decide +kernel) rfl rfl (Nat.le_of_ble_eq_true rfl) dX8_copies_68 (fun H locs hP hD hS => ?_)
          have hP : va_P D vwCl [(mI, .inl (cL, 1200, .inr (.inl fI))), (mJ, .inl (cI, 4, .inl (k4i j0 j1 j2 j3))), (mS, .inl (cI, 4, .inl (k4i s0 s1 s2 s3))), (mD, .inl (cL, 256, .inr (.inl (vp_updL fD dP.toNatClampNeg r_306)))), (m0, .inr (8, [.ref mH, .int aM, .long aC, .int mM, .long mQ, .int oV, .int pL, .int lI, .int sW, .int x_307, .int sT, .long aT, .int 14, .int iW, .ref mI, .ref mJ, .ref mS, .ref mD, .int iH, .int aE, .int mN, .long sZ, .ref mX, .int tS, .int tA, .int tW, .ref mA, .ref mB, .ref mW, .ref mL, .int lS])), (mH, .inl (cI, 512, .inl fH))] H := hP
          have hD : va_D A [(mI, .inl (cL, 1200, .inr (.inl fI))), (mJ, .inl (cI, 4, .inl (k4i j0 j1 j2 j3))), (mS, .inl (cI, 4, .inl (k4i s0 s1 s2 s3))), (mD, .inl (cL, 256, .inr (.inl (vp_updL fD dP.toNatClampNeg r_306)))), (m0, .inr (8, [.ref mH, .int aM, .long aC, .int mM, .long mQ, .int oV, .int pL, .int lI, .int sW, .int x_307, .int sT, .long aT, .int 14, .int iW, .ref mI, .ref mJ, .ref mS, .ref mD, .int iH, .int aE, .int mN, .long sZ, .ref mX, .int tS, .int tA, .int tW, .ref mA, .ref mB, .ref mW, .ref mL, .int lS])), (mH, .inl (cI, 512, .inl fH))] := hD
          refine lv_iconst (v := 0) hx hb dX8_copies_71 (by decide) ?_
          refine kIret (u := (pL, x_307, 14, iW, fH, (vp_updL fD dP.toNatClampNeg r_306), fI, j0, j1, j2, j3, s0, s1, s2, s3)) hx hb hr rfl hlocks hS dX8_copies_72 ?_ (hP.sub [4, 5, 0, 1, 2, 3] rfl) (hD.sub [4, 5, 0, 1, 2, 3] (by decide) rfl)
          try dsimp only
          try simp only [Int32.reduceToInt, Int64.reduceToInt, true_or, or_true, true_and, and_true]
          try rw [← ex_307] at hk8
          repeat' apply And.intro
          all_goals first | assumption | omega
        · exact absurd c_25_304 (by decide)
    · exact absurd c_4_302 (by decide)
