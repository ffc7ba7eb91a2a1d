set_option maxRecDepth 100000 in
theorem iX8_copies_X8 : ∀ w ∈ wsX80, w ∈ wsX8_copies := fun w h => (goodIn_r (big := wsX8_copies) wsX80 [43, 44, 45, 46, 47, 48, 49, 50, 51, 52, 53, 54, 55, 56, 57, 58, 59, 60, 61, 62, 63, 64, 65, 66, 67, 68, 69, 70, 71, 72, 73] rfl (by decide +kernel) w h).1
set_option maxRecDepth 100000 in
set_option maxHeartbeats 4000000 in
theorem q_copies_0 (l : Launch) (D : va_G) (cI cL cB cZ cT : ClassId) (sz : Nat) (m0 mH mI mJ mS mD mX mA mB mW mL : Nat) (aM : Int32) (aC : Int64) (mM : Int32) (mQ : Int64) (oV pL lI sW dP sT : Int32) (aT : Int64) (iW iH aE mN : Int32) (sZ : Int64) (tS tA tW lS : Int32) (fH : Nat → Int32) (fI : Nat → Int64) (j0 j1 j2 j3 : Int32) (s0 s1 s2 s3 : Int32) (fD : Nat → Int64) (hpl : jP_ pL) (hdp : jD_ dP) (hch : jC_ 0) (hiw : jW_ iW 0) (ht0 : jT_ s0 j0) (ht1 : jT_ s1 j1) (ht2 : jT_ s2 j2) (ht3 : jT_ s3 j3) (had : 0 ≤ aE.toInt ∧ aE.toInt ≤ 511 ∧ (iH.toInt = 0 ∨ aE.toInt ≤ 510)) : kM (S := (Int32 × Int32 × Int32 × Int32 × (Nat → Int32) × (Nat → Int64) × (Nat → Int64) × Int32 × Int32 × Int32 × Int32 × Int32 × Int32 × Int32 × Int32)) l yX8_copies wsX8_copies ({ frames := 2, cells := 0, slots := 0, locals := 45 }) D (kT cI cL cB cZ cT) [.ref m0] [(m0, .inr (8, [.ref mH, .int aM, .long aC, .int mM, .long mQ, .int oV, .int pL, .int lI, .int sW, .int dP, .int sT, .long aT, .int 0, .int iW, .ref mI, .ref mJ, .ref mS, .ref mD, .int iH, .int aE, .int mN, .long sZ, .ref mX, .int tS, .int tA, .int tW, .ref mA, .ref mB, .ref mW, .ref mL, .int lS])), (mH, .inl (cI, 512, .inl fH)), (mI, .inl (cL, 1200, .inr (.inl fI))), (mJ, .inl (cI, 4, .inl (k4i j0 j1 j2 j3))), (mS, .inl (cI, 4, .inl (k4i s0 s1 s2 s3))), (mD, .inl (cL, 256, .inr (.inl fD)))] sz eI (fun r u => (0 ≤ r.toInt ∧ r.toInt ≤ 6) ∧ jP_ (u.1) ∧ jD_ (u.2.1) ∧ jC_ (u.2.2.1) ∧ jW_ (u.2.2.2.1) (u.2.2.1) ∧ jT_ (u.2.2.2.2.2.2.2.2.2.2.2.1) (u.2.2.2.2.2.2.2.1) ∧ jT_ (u.2.2.2.2.2.2.2.2.2.2.2.2.1) (u.2.2.2.2.2.2.2.2.1) ∧ jT_ (u.2.2.2.2.2.2.2.2.2.2.2.2.2.1) (u.2.2.2.2.2.2.2.2.2.1) ∧ jT_ (u.2.2.2.2.2.2.2.2.2.2.2.2.2.2) (u.2.2.2.2.2.2.2.2.2.2.1)) (fun u => [(m0, .inr (8, [.ref mH, .int aM, .long aC, .int mM, .long mQ, .int oV, .int u.1, .int lI, .int sW, .int u.2.1, .int sT, .long aT, .int u.2.2.1, .int u.2.2.2.1, .ref mI, .ref mJ, .ref mS, .ref mD, .int iH, .int aE, .int mN, .long sZ, .ref mX, .int tS, .int tA, .int tW, .ref mA, .ref mB, .ref mW, .ref mL, .int lS])), (mH, .inl (cI, 512, .inl u.2.2.2.2.1)), (mI, .inl (cL, 1200, .inr (.inl u.2.2.2.2.2.2.1))), (mJ, .inl (cI, 4, .inl (k4i u.2.2.2.2.2.2.2.1 u.2.2.2.2.2.2.2.2.1 u.2.2.2.2.2.2.2.2.2.1 u.2.2.2.2.2.2.2.2.2.2.1))), (mS, .inl (cI, 4, .inl (k4i u.2.2.2.2.2.2.2.2.2.2.2.1 u.2.2.2.2.2.2.2.2.2.2.2.2.1 u.2.2.2.2.2.2.2.2.2.2.2.2.2.1 u.2.2.2.2.2.2.2.2.2.2.2.2.2.2))), (mD, .inl (cL, 256, .inr (.inl u.2.2.2.2.2.1)))]) 0 0 := by
  refine kStart (cc := cX8_copies) (maxL := 6) (ret := (some .int)) (own := RX8) (by decide) rfl rfl (Nat.le_of_ble_eq_true rfl) ?_
  intro p e s m args below meth c A ls hx hb hr hml hown hts hlocks hnm hsz hA hG hP hD hS hl
  have hK := hG.1
  have hl : lv_has ls 6 [(0, .ref m0)] := hl
  refine lv_aload_n hx hb dX8_copies_0 rfl (lv_at hl 0 rfl) ?_
  refine va_get (D := D) (ci := 8) (v := .int 0) (C := RX8) (T := TX8) (N := 31) hx hb hts iX8_copies_X8 hown hK hP 0 rfl rfl 12 (by decide) (hts (.fieldLink RX8 43 "TapeCalculatorModel" "chosen" "I") (List.mem_of_getElem? (i := 1) rfl)) (fun _ h9 => h9) rfl dX8_copies_1 ?_
  refine lv_if_ne (tgt := 10) hx hb dX8_copies_4 (by decide) (fun c_4_0 => ?_) (fun c_4_0 => ?_)
  · exact absurd (by decide) c_4_0
  · have t_4_0 := c_4_0
    try simp only [kb_eq0, kb_ne0, lg_cmp_lt, lg_cmp_le, lg_cmp_gt, lg_cmp_ge, lg_cmp_eq] at t_4_0
    try simp only [Int32.lt_iff_toInt_lt, Int32.le_iff_toInt_le, ← Int32.toInt_inj, Int64.lt_iff_toInt_lt, Int64.le_iff_toInt_le, ← Int64.toInt_inj, Int32.toInt_toInt64, Int32.reduceToInt, Int64.reduceToInt] at t_4_0
    refine lv_bipush (v := 6) hx hb dX8_copies_7 (by decide) ?_
    refine kIret (u := (pL, dP, 0, iW, fH, fD, fI, j0, j1, j2, j3, s0, s1, s2, s3)) hx hb hr rfl hlocks hS dX8_copies_9 ?_ (hP.sub [0, 1, 2, 3, 4, 5] rfl) (hD.sub [0, 1, 2, 3, 4, 5] (by decide) rfl)
    try dsimp only
    repeat' (with_reducible apply And.intro)
    all_goals first | with_reducible assumption | ((try simp only [jT_, jP_, jD_, jC_, jB_, jW_, Int32.reduceToInt, Int64.reduceToInt, true_or, or_true, true_and, and_true]) <;> omega)
set_option maxRecDepth 100000 in
set_option maxHeartbeats 4000000 in
theorem q_copies_1 (l : Launch) (D : va_G) (cI cL cB cZ cT : ClassId) (sz : Nat) (m0 mH mI mJ mS mD mX mA mB mW mL : Nat) (aM : Int32) (aC : Int64) (mM : Int32) (mQ : Int64) (oV pL lI sW dP sT : Int32) (aT : Int64) (iW iH aE mN : Int32) (sZ : Int64) (tS tA tW lS : Int32) (fH : Nat → Int32) (fI : Nat → Int64) (j0 j1 j2 j3 : Int32) (s0 s1 s2 s3 : Int32) (fD : Nat → Int64) (hpl : jP_ pL) (hdp : jD_ dP) (hch : jC_ 1) (hiw : jW_ iW 1) (ht0 : jT_ s0 j0) (ht1 : jT_ s1 j1) (ht2 : jT_ s2 j2) (ht3 : jT_ s3 j3) (had : 0 ≤ aE.toInt ∧ aE.toInt ≤ 511 ∧ (iH.toInt = 0 ∨ aE.toInt ≤ 510)) : kM (S := (Int32 × Int32 × Int32 × Int32 × (Nat → Int32) × (Nat → Int64) × (Nat → Int64) × Int32 × Int32 × Int32 × Int32 × Int32 × Int32 × Int32 × Int32)) l yX8_copies wsX8_copies ({ frames := 2, cells := 0, slots := 0, locals := 45 }) D (kT cI cL cB cZ cT) [.ref m0] [(m0, .inr (8, [.ref mH, .int aM, .long aC, .int mM, .long mQ, .int oV, .int pL, .int lI, .int sW, .int dP, .int sT, .long aT, .int 1, .int iW, .ref mI, .ref mJ, .ref mS, .ref mD, .int iH, .int aE, .int mN, .long sZ, .ref mX, .int tS, .int tA, .int tW, .ref mA, .ref mB, .ref mW, .ref mL, .int lS])), (mH, .inl (cI, 512, .inl fH)), (mI, .inl (cL, 1200, .inr (.inl fI))), (mJ, .inl (cI, 4, .inl (k4i j0 j1 j2 j3))), (mS, .inl (cI, 4, .inl (k4i s0 s1 s2 s3))), (mD, .inl (cL, 256, .inr (.inl fD)))] sz eI (fun r u => (0 ≤ r.toInt ∧ r.toInt ≤ 6) ∧ jP_ (u.1) ∧ jD_ (u.2.1) ∧ jC_ (u.2.2.1) ∧ jW_ (u.2.2.2.1) (u.2.2.1) ∧ jT_ (u.2.2.2.2.2.2.2.2.2.2.2.1) (u.2.2.2.2.2.2.2.1) ∧ jT_ (u.2.2.2.2.2.2.2.2.2.2.2.2.1) (u.2.2.2.2.2.2.2.2.1) ∧ jT_ (u.2.2.2.2.2.2.2.2.2.2.2.2.2.1) (u.2.2.2.2.2.2.2.2.2.1) ∧ jT_ (u.2.2.2.2.2.2.2.2.2.2.2.2.2.2) (u.2.2.2.2.2.2.2.2.2.2.1)) (fun u => [(m0, .inr (8, [.ref mH, .int aM, .long aC, .int mM, .long mQ, .int oV, .int u.1, .int lI, .int sW, .int u.2.1, .int sT, .long aT, .int u.2.2.1, .int u.2.2.2.1, .ref mI, .ref mJ, .ref mS, .ref mD, .int iH, .int aE, .int mN, .long sZ, .ref mX, .int tS, .int tA, .int tW, .ref mA, .ref mB, .ref mW, .ref mL, .int lS])), (mH, .inl (cI, 512, .inl u.2.2.2.2.1)), (mI, .inl (cL, 1200, .inr (.inl u.2.2.2.2.2.2.1))), (mJ, .inl (cI, 4, .inl (k4i u.2.2.2.2.2.2.2.1 u.2.2.2.2.2.2.2.2.1 u.2.2.2.2.2.2.2.2.2.1 u.2.2.2.2.2.2.2.2.2.2.1))), (mS, .inl (cI, 4, .inl (k4i u.2.2.2.2.2.2.2.2.2.2.2.1 u.2.2.2.2.2.2.2.2.2.2.2.2.1 u.2.2.2.2.2.2.2.2.2.2.2.2.2.1 u.2.2.2.2.2.2.2.2.2.2.2.2.2.2))), (mD, .inl (cL, 256, .inr (.inl u.2.2.2.2.2.1)))]) 0 0 := by
  refine kStart (cc := cX8_copies) (maxL := 6) (ret := (some .int)) (own := RX8) (by decide) rfl rfl (Nat.le_of_ble_eq_true rfl) ?_
  intro p e s m args below meth c A ls hx hb hr hml hown hts hlocks hnm hsz hA hG hP hD hS hl
  have hK := hG.1
  have hl : lv_has ls 6 [(0, .ref m0)] := hl
  have hiw1 : iW.toInt = 0 := by simp only [jW_, Int32.reduceToInt] at hiw; omega
  have hu0 : 0 ≤ s0.toInt ∧ s0.toInt ≤ j0.toInt ∧ j0.toInt ≤ 300 := ht0
  refine lv_aload_n hx hb dX8_copies_0 rfl (lv_at hl 0 rfl) ?_
  refine va_get (D := D) (ci := 8) (v := .int 1) (C := RX8) (T := TX8) (N := 31) hx hb hts iX8_copies_X8 hown hK hP 0 rfl rfl 12 (by decide) (hts (.fieldLink RX8 43 "TapeCalculatorModel" "chosen" "I") (List.mem_of_getElem? (i := 1) rfl)) (fun _ h9 => h9) rfl dX8_copies_1 ?_
  refine lv_if_ne (tgt := 10) hx hb dX8_copies_4 (by decide) (fun c_4_0 => ?_) (fun c_4_0 => ?_)
  · have t_4_0 := c_4_0
    try simp only [kb_eq0, kb_ne0, lg_cmp_lt, lg_cmp_le, lg_cmp_gt, lg_cmp_ge, lg_cmp_eq] at t_4_0
    try simp only [Int32.lt_iff_toInt_lt, Int32.le_iff_toInt_le, ← Int32.toInt_inj, Int64.lt_iff_toInt_lt, Int64.le_iff_toInt_le, ← Int64.toInt_inj, Int32.toInt_toInt64, Int32.reduceToInt, Int64.reduceToInt] at t_4_0
    refine lv_aload_n hx hb dX8_copies_10 rfl (lv_at hl 0 rfl) ?_
    refine va_get (D := D) (ci := 8) (v := .int 1) (C := RX8) (T := TX8) (N := 31) hx hb hts iX8_copies_X8 hown hK hP 0 rfl rfl 12 (by decide) (hts (.fieldLink RX8 43 "TapeCalculatorModel" "chosen" "I") (List.mem_of_getElem? (i := 1) rfl)) (fun _ h9 => h9) rfl dX8_copies_11 ?_
    refine lv_bipush (v := 12) hx hb dX8_copies_14 (by decide) ?_
    refine lv_icmp_le (tgt := 73) hx hb dX8_copies_16 (by decide) (fun c_16_1 => ?_) (fun c_16_1 => ?_)
    · have t_16_1 := c_16_1
      try simp only [kb_eq0, kb_ne0, lg_cmp_lt, lg_cmp_le, lg_cmp_gt, lg_cmp_ge, lg_cmp_eq] at t_16_1
      try simp only [Int32.lt_iff_toInt_lt, Int32.le_iff_toInt_le, ← Int32.toInt_inj, Int64.lt_iff_toInt_lt, Int64.le_iff_toInt_le, ← Int64.toInt_inj, Int32.toInt_toInt64, Int32.reduceToInt, Int64.reduceToInt] at t_16_1
      refine lv_aload_n hx hb dX8_copies_73 rfl (lv_at hl 0 rfl) ?_
      refine va_get (D := D) (ci := 8) (v := .int 1) (C := RX8) (T := TX8) (N := 31) hx hb hts iX8_copies_X8 hown hK hP 0 rfl rfl 12 (by decide) (hts (.fieldLink RX8 43 "TapeCalculatorModel" "chosen" "I") (List.mem_of_getElem? (i := 1) rfl)) (fun _ h9 => h9) rfl dX8_copies_74 ?_
      refine lv_bipush (v := 8) hx hb dX8_copies_77 (by decide) ?_
      refine lv_icmp_le (tgt := 109) hx hb dX8_copies_79 (by decide) (fun c_79_2 => ?_) (fun c_79_2 => ?_)
      · have t_79_2 := c_79_2
        try simp only [kb_eq0, kb_ne0, lg_cmp_lt, lg_cmp_le, lg_cmp_gt, lg_cmp_ge, lg_cmp_eq] at t_79_2
        try simp only [Int32.lt_iff_toInt_lt, Int32.le_iff_toInt_le, ← Int32.toInt_inj, Int64.lt_iff_toInt_lt, Int64.le_iff_toInt_le, ← Int64.toInt_inj, Int32.toInt_toInt64, Int32.reduceToInt, Int64.reduceToInt] at t_79_2
        refine lv_aload_n hx hb dX8_copies_109 rfl (lv_at hl 0 rfl) ?_
        refine va_get (D := D) (ci := 8) (v := .int 1) (C := RX8) (T := TX8) (N := 31) hx hb hts iX8_copies_X8 hown hK hP 0 rfl rfl 12 (by decide) (hts (.fieldLink RX8 43 "TapeCalculatorModel" "chosen" "I") (List.mem_of_getElem? (i := 1) rfl)) (fun _ h9 => h9) rfl dX8_copies_110 ?_
        refine lv_iconst (v := 4) hx hb dX8_copies_113 (by decide) ?_
        refine lv_icmp_le (tgt := 121) hx hb dX8_copies_114 (by decide) (fun c_114_3 => ?_) (fun c_114_3 => ?_)
        · have t_114_3 := c_114_3
          try simp only [kb_eq0, kb_ne0, lg_cmp_lt, lg_cmp_le, lg_cmp_gt, lg_cmp_ge, lg_cmp_eq] at t_114_3
          try simp only [Int32.lt_iff_toInt_lt, Int32.le_iff_toInt_le, ← Int32.toInt_inj, Int64.lt_iff_toInt_lt, Int64.le_iff_toInt_le, ← Int64.toInt_inj, Int32.toInt_toInt64, Int32.reduceToInt, Int64.reduceToInt] at t_114_3
          refine lv_iconst (v := 0) hx hb dX8_copies_121 (by decide) ?_
          refine lv_istore_n (lv' := [(1, .int 0), (0, .ref m0)]) hx hb dX8_copies_122 rfl hl (by decide) rfl (fun ls hl => ?_)
          refine lv_iload_n hx hb dX8_copies_123 rfl (lv_at hl 0 rfl) ?_
          refine lv_if_eq (tgt := 136) hx hb dX8_copies_124 (by decide) (fun c_124_4 => ?_) (fun c_124_4 => ?_)
          · have t_124_4 := c_124_4
            try simp only [kb_eq0, kb_ne0, lg_cmp_lt, lg_cmp_le, lg_cmp_gt, lg_cmp_ge, lg_cmp_eq] at t_124_4
            try simp only [Int32.lt_iff_toInt_lt, Int32.le_iff_toInt_le, ← Int32.toInt_inj, Int64.lt_iff_toInt_lt, Int64.le_iff_toInt_le, ← Int64.toInt_inj, Int32.toInt_toInt64, Int32.reduceToInt, Int64.reduceToInt] at t_124_4
            refine lv_aload_n hx hb dX8_copies_136 rfl (lv_at hl 1 rfl) ?_
            refine va_get (D := D) (ci := 8) (v := .int 1) (C := RX8) (T := TX8) (N := 31) hx hb hts iX8_copies_X8 hown hK hP 0 rfl rfl 12 (by decide) (hts (.fieldLink RX8 43 "TapeCalculatorModel" "chosen" "I") (List.mem_of_getElem? (i := 1) rfl)) (fun _ h9 => h9) rfl dX8_copies_137 ?_
            refine lv_iconst (v := 1) hx hb dX8_copies_140 (by decide) ?_
            refine lv_isub hx hb dX8_copies_141 ?_
            refine lv_topi (fun x_6 ex_6 => ?_)
            obtain rfl : x_6 = 0 := ex_6.trans (by decide)
            refine lv_istore_n (lv' := [(2, .int 0), (1, .int 0), (0, .ref m0)]) hx hb dX8_copies_142 rfl hl (by decide) rfl (fun ls hl => ?_)
            refine lv_iload_n hx hb dX8_copies_143 rfl (lv_at hl 1 rfl) ?_
            refine lv_if_eq (tgt := 158) hx hb dX8_copies_144 (by decide) (fun c_144_6 => ?_) (fun c_144_6 => ?_)
            · have t_144_6 := c_144_6
              try simp only [kb_eq0, kb_ne0, lg_cmp_lt, lg_cmp_le, lg_cmp_gt, lg_cmp_ge, lg_cmp_eq] at t_144_6
              try simp only [Int32.lt_iff_toInt_lt, Int32.le_iff_toInt_le, ← Int32.toInt_inj, Int64.lt_iff_toInt_lt, Int64.le_iff_toInt_le, ← Int64.toInt_inj, Int32.toInt_toInt64, Int32.reduceToInt, Int64.reduceToInt] at t_144_6
              refine lv_aload_n hx hb dX8_copies_158 rfl (lv_at hl 2 rfl) ?_
              refine va_get (D := D) (ci := 8) (v := .ref mS) (C := RX8) (T := TX8) (N := 31) hx hb hts iX8_copies_X8 hown hK hP 0 rfl rfl 16 (by decide) (hts (.fieldLink RX8 20 "TapeCalculatorModel" "stands" "[I") (List.mem_of_getElem? (i := 5) rfl)) (fun _ h9 => h9) rfl dX8_copies_159 ?_
              refine lv_iload_n hx hb dX8_copies_162 rfl (lv_at hl 0 rfl) ?_
              refine va_iald hx hb hK hP 4 0 rfl rfl (vp_in_iff.mpr (by decide)) dX8_copies_163 ?_
              refine lv_topi (fun x_8 ex_8 => ?_)
              obtain rfl : s0 = x_8 := ex_8.symm
              refine lv_istore_n (lv' := [(3, .int s0), (2, .int 0), (1, .int 0), (0, .ref m0)]) hx hb dX8_copies_164 rfl hl (by decide) rfl (fun ls hl => ?_)
              have J230 : ∀ (vv : Int64) (st : Int32), jT_ st j0 → ∀ (H : Heap) (locs : List Loc), va_P D vwCl [(m0, .inr (8, [.ref mH, .int aM, .long aC, .int mM, .long mQ, .int oV, .int pL, .int lI, .int sW, .int dP, .int sT, .long aT, .int 1, .int iW, .ref mI, .ref mJ, .ref mS, .ref mD, .int iH, .int aE, .int mN, .long sZ, .ref mX, .int tS, .int tA, .int tW, .ref mA, .ref mB, .ref mW, .ref mL, .int lS])), (mH, .inl (cI, 512, .inl fH)), (mI, .inl (cL, 1200, .inr (.inl fI))), (mJ, .inl (cI, 4, .inl (k4i j0 j1 j2 j3))), (mS, .inl (cI, 4, .inl (k4i st s1 s2 s3))), (mD, .inl (cL, 256, .inr (.inl fD)))] H → va_D A [(m0, .inr (8, [.ref mH, .int aM, .long aC, .int mM, .long mQ, .int oV, .int pL, .int lI, .int sW, .int dP, .int sT, .long aT, .int 1, .int iW, .ref mI, .ref mJ, .ref mS, .ref mD, .int iH, .int aE, .int mN, .long sZ, .ref mX, .int tS, .int tA, .int tW, .ref mA, .ref mB, .ref mW, .ref mL, .int lS])), (mH, .inl (cI, 512, .inl fH)), (mI, .inl (cL, 1200, .inr (.inl fI))), (mJ, .inl (cI, 4, .inl (k4i j0 j1 j2 j3))), (mS, .inl (cI, 4, .inl (k4i st s1 s2 s3))), (mD, .inl (cL, 256, .inr (.inl fD)))] → va_S A s.heap H locs → ∀ ls : Array Slot, lv_has ls 6 [(4, .long vv), (3, .int s0), (2, .int 0), (1, .int 0), (0, .ref m0)] → W p l e ({ frames := 2, cells := 0, slots := 0, locals := 45 }) s m args below meth c H locs 0 0 (MQ below (kQ (S := (Int32 × Int32 × Int32 × Int32 × (Nat → Int32) × (Nat → Int64) × (Nat → Int64) × Int32 × Int32 × Int32 × Int32 × Int32 × Int32 × Int32 × Int32)) eI (fun r u => (0 ≤ r.toInt ∧ r.toInt ≤ 6) ∧ jP_ (u.1) ∧ jD_ (u.2.1) ∧ jC_ (u.2.2.1) ∧ jW_ (u.2.2.2.1) (u.2.2.1) ∧ jT_ (u.2.2.2.2.2.2.2.2.2.2.2.1) (u.2.2.2.2.2.2.2.1) ∧ jT_ (u.2.2.2.2.2.2.2.2.2.2.2.2.1) (u.2.2.2.2.2.2.2.2.1) ∧ jT_ (u.2.2.2.2.2.2.2.2.2.2.2.2.2.1) (u.2.2.2.2.2.2.2.2.2.1) ∧ jT_ (u.2.2.2.2.2.2.2.2.2.2.2.2.2.2) (u.2.2.2.2.2.2.2.2.2.2.1)) D (fun u => [(m0, .inr (8, [.ref mH, .int aM, .long aC, .int mM, .long mQ, .int oV, .int u.1, .int lI, .int sW, .int u.2.1, .int sT, .long aT, .int u.2.2.1, .int u.2.2.2.1, .ref mI, .ref mJ, .ref mS, .ref mD, .int iH, .int aE, .int mN, .long sZ, .ref mX, .int tS, .int tA, .int tW, .ref mA, .ref mB, .ref mW, .ref mL, .int lS])), (mH, .inl (cI, 512, .inl u.2.2.2.2.1)), (mI, .inl (cL, 1200, .inr (.inl u.2.2.2.2.2.2.1))), (mJ, .inl (cI, 4, .inl (k4i u.2.2.2.2.2.2.2.1 u.2.2.2.2.2.2.2.2.1 u.2.2.2.2.2.2.2.2.2.1 u.2.2.2.2.2.2.2.2.2.2.1))), (mS, .inl (cI, 4, .inl (k4i u.2.2.2.2.2.2.2.2.2.2.2.1 u.2.2.2.2.2.2.2.2.2.2.2.2.1 u.2.2.2.2.2.2.2.2.2.2.2.2.2.1 u.2.2.2.2.2.2.2.2.2.2.2.2.2.2))), (mD, .inl (cL, 256, .inr (.inl u.2.2.2.2.2.1)))]) A) args s 0 0 A) (F0 m 230 ls []) := by
                intro vv st hst H locs hP hD hS ls hl
                refine lv_lload hx hb dX8_copies_230 (lv_at hl 0 rfl) ?_
                refine lv_lconst (v := 0) hx hb dX8_copies_232 (by decide) ?_
                refine W.lcmp hx hb dX8_copies_233 ?_
                refine lv_if_lt (tgt := 246) hx hb dX8_copies_234 (by decide) (fun c_234_8 => ?_) (fun c_234_8 => ?_)
                · have t_234_8 := c_234_8
                  try simp only [kb_eq0, kb_ne0, lg_cmp_lt, lg_cmp_le, lg_cmp_gt, lg_cmp_ge, lg_cmp_eq] at t_234_8
                  try simp only [Int32.lt_iff_toInt_lt, Int32.le_iff_toInt_le, ← Int32.toInt_inj, Int64.lt_iff_toInt_lt, Int64.le_iff_toInt_le, ← Int64.toInt_inj, Int32.toInt_toInt64, Int32.reduceToInt, Int64.reduceToInt] at t_234_8
                  refine lv_aload_n hx hb dX8_copies_246 rfl (lv_at hl 4 rfl) ?_
                  refine lv_iconst (v := 0) hx hb dX8_copies_247 (by decide) ?_
                  refine va_put (D := D) (ci := 8) (v := .int 0) (ty := .int) (C := RX8) (T := TX8) (N := 31) hx hb hts iX8_copies_X8 tyX8 tyX8_ok nmX8 hown hK hP hD hS 0 rfl rfl 12 (by decide) (hts (.fieldLink RX8 43 "TapeCalculatorModel" "chosen" "I") (List.mem_of_getElem? (i := 1) rfl)) (fun _ h9 => h9) rfl (by decide +kernel) rfl rfl (Nat.le_of_ble_eq_true rfl) dX8_copies_248 (fun H locs hP hD hS => ?_)
                  have hP : va_P D vwCl [(m0, .inr (8, [.ref mH, .int aM, .long aC, .int mM, .long mQ, .int oV, .int pL, .int lI, .int sW, .int dP, .int sT, .long aT, .int 0, .int iW, .ref mI, .ref mJ, .ref mS, .ref mD, .int iH, .int aE, .int mN, .long sZ, .ref mX, .int tS, .int tA, .int tW, .ref mA, .ref mB, .ref mW, .ref mL, .int lS])), (mH, .inl (cI, 512, .inl fH)), (mI, .inl (cL, 1200, .inr (.inl fI))), (mJ, .inl (cI, 4, .inl (k4i j0 j1 j2 j3))), (mS, .inl (cI, 4, .inl (k4i st s1 s2 s3))), (mD, .inl (cL, 256, .inr (.inl fD)))] H := hP
                  have hD : va_D A [(m0, .inr (8, [.ref mH, .int aM, .long aC, .int mM, .long mQ, .int oV, .int pL, .int lI, .int sW, .int dP, .int sT, .long aT, .int 0, .int iW, .ref mI, .ref mJ, .ref mS, .ref mD, .int iH, .int aE, .int mN, .long sZ, .ref mX, .int tS, .int tA, .int tW, .ref mA, .ref mB, .ref mW, .ref mL, .int lS])), (mH, .inl (cI, 512, .inl fH)), (mI, .inl (cL, 1200, .inr (.inl fI))), (mJ, .inl (cI, 4, .inl (k4i j0 j1 j2 j3))), (mS, .inl (cI, 4, .inl (k4i st s1 s2 s3))), (mD, .inl (cL, 256, .inr (.inl fD)))] := hD
                  refine lv_aload_n hx hb dX8_copies_251 rfl (lv_at hl 4 rfl) ?_
                  refine lv_lload hx hb dX8_copies_252 (lv_at hl 0 rfl) ?_
                  refine lv_ldc2 (v := (-2)) hx hb hown (hts (.constantLong RX8 111 (-2)) (List.mem_of_getElem? (i := 9) rfl)) dX8_copies_254 ?_
                  refine W.lcmp hx hb dX8_copies_257 ?_
                  refine lv_if_ne (tgt := 265) hx hb dX8_copies_258 (by decide) (fun c_258_9 => ?_) (fun c_258_9 => ?_)
                  · have t_258_9 := c_258_9
                    try simp only [kb_eq0, kb_ne0, lg_cmp_lt, lg_cmp_le, lg_cmp_gt, lg_cmp_ge, lg_cmp_eq] at t_258_9
                    try simp only [Int32.lt_iff_toInt_lt, Int32.le_iff_toInt_le, ← Int32.toInt_inj, Int64.lt_iff_toInt_lt, Int64.le_iff_toInt_le, ← Int64.toInt_inj, Int32.toInt_toInt64, Int32.reduceToInt, Int64.reduceToInt] at t_258_9
                    refine lv_iconst (v := 1) hx hb dX8_copies_265 (by decide) ?_
                    refine kCallVd (wr := [(mH, .inl (cI, 512, .inl fH)), (mI, .inl (cL, 1200, .inr (.inl fI))), (mJ, .inl (cI, 4, .inl (k4i j0 j1 j2 j3))), (mS, .inl (cI, 4, .inl (k4i st s1 s2 s3))), (mD, .inl (cL, 256, .inr (.inl fD)))]) (va_runV (As := [.int 1]) (rest := []) ⟨hx, hb, hml, hown, hts⟩ (q_go l D cI cL cB cZ cT _ m0 mH mI mJ mS mD mX mA mB mW mL aM aC mM mQ oV pL lI sW dP sT aT 0 iW iH aE mN sZ tS tA tW lS 1) (cwV 1 hts gX8_copies_X8_go rfl rfl rfl (by decide +kernel) ⟨Nat.le_of_ble_eq_true rfl, Nat.le_of_ble_eq_true rfl⟩) (kPreV hG hP hD [0] rfl (by decide) 0 8 rfl rfl rfl) rfl rfl hl.1 rfl (lv_room (Nat.le_of_ble_eq_true rfl)) dX8_copies_266 ⟨Nat.le_of_ble_eq_true rfl, Nat.le_of_ble_eq_true rfl⟩) hA hP hD hS [0] [1, 2, 3, 4, 5] rfl rfl (by decide) (by decide) (fun _ u_r_11 H locs wr_11 hP hD hS => ?_)
                    have hP : va_P D vwCl [(mH, .inl (cI, 512, .inl fH)), (mI, .inl (cL, 1200, .inr (.inl fI))), (mJ, .inl (cI, 4, .inl (k4i j0 j1 j2 j3))), (mS, .inl (cI, 4, .inl (k4i st s1 s2 s3))), (mD, .inl (cL, 256, .inr (.inl fD))), (m0, .inr (8, [.ref mH, .int aM, .long aC, .int mM, .long mQ, .int oV, .int u_r_11, .int lI, .int sW, .int dP, .int sT, .long aT, .int 0, .int iW, .ref mI, .ref mJ, .ref mS, .ref mD, .int iH, .int aE, .int mN, .long sZ, .ref mX, .int tS, .int tA, .int tW, .ref mA, .ref mB, .ref mW, .ref mL, .int lS]))] H := hP
                    have hD : va_D A [(mH, .inl (cI, 512, .inl fH)), (mI, .inl (cL, 1200, .inr (.inl fI))), (mJ, .inl (cI, 4, .inl (k4i j0 j1 j2 j3))), (mS, .inl (cI, 4, .inl (k4i st s1 s2 s3))), (mD, .inl (cL, 256, .inr (.inl fD))), (m0, .inr (8, [.ref mH, .int aM, .long aC, .int mM, .long mQ, .int oV, .int u_r_11, .int lI, .int sW, .int dP, .int sT, .long aT, .int 0, .int iW, .ref mI, .ref mJ, .ref mS, .ref mD, .int iH, .int aE, .int mN, .long sZ, .ref mX, .int tS, .int tA, .int tW, .ref mA, .ref mB, .ref mW, .ref mL, .int lS]))] := hD
                    try dsimp only at wr_11
                    try simp only [Int32.reduceToInt, Int64.reduceToInt] at wr_11
                    refine lv_iconst (v := 0) hx hb dX8_copies_269 (by decide) ?_
                    refine kIret (u := (u_r_11, dP, 0, iW, fH, fD, fI, j0, j1, j2, j3, st, s1, s2, s3)) hx hb hr rfl hlocks hS dX8_copies_270 ?_ (hP.sub [5, 0, 1, 2, 3, 4] rfl) (hD.sub [5, 0, 1, 2, 3, 4] (by decide) rfl)
                    try dsimp only
                    repeat' (with_reducible apply And.intro)
                    all_goals first | with_reducible assumption | ((try simp only [jT_, jP_, jD_, jC_, jB_, jW_, Int32.reduceToInt, Int64.reduceToInt, true_or, or_true, true_and, and_true]) <;> omega)
                  · have t_258_9 := c_258_9
                    try simp only [kb_eq0, kb_ne0, lg_cmp_lt, lg_cmp_le, lg_cmp_gt, lg_cmp_ge, lg_cmp_eq] at t_258_9
                    try simp only [Int32.lt_iff_toInt_lt, Int32.le_iff_toInt_le, ← Int32.toInt_inj, Int64.lt_iff_toInt_lt, Int64.le_iff_toInt_le, ← Int64.toInt_inj, Int32.toInt_toInt64, Int32.reduceToInt, Int64.reduceToInt] at t_258_9
                    refine lv_iconst (v := 2) hx hb dX8_copies_261 (by decide) ?_
                    refine lv_goto (tgt := 266) hx hb dX8_copies_262 (by decide) ?_
                    refine kCallVd (wr := [(mH, .inl (cI, 512, .inl fH)), (mI, .inl (cL, 1200, .inr (.inl fI))), (mJ, .inl (cI, 4, .inl (k4i j0 j1 j2 j3))), (mS, .inl (cI, 4, .inl (k4i st s1 s2 s3))), (mD, .inl (cL, 256, .inr (.inl fD)))]) (va_runV (As := [.int 2]) (rest := []) ⟨hx, hb, hml, hown, hts⟩ (q_go l D cI cL cB cZ cT _ m0 mH mI mJ mS mD mX mA mB mW mL aM aC mM mQ oV pL lI sW dP sT aT 0 iW iH aE mN sZ tS tA tW lS 2) (cwV 1 hts gX8_copies_X8_go rfl rfl rfl (by decide +kernel) ⟨Nat.le_of_ble_eq_true rfl, Nat.le_of_ble_eq_true rfl⟩) (kPreV hG hP hD [0] rfl (by decide) 0 8 rfl rfl rfl) rfl rfl hl.1 rfl (lv_room (Nat.le_of_ble_eq_true rfl)) dX8_copies_266 ⟨Nat.le_of_ble_eq_true rfl, Nat.le_of_ble_eq_true rfl⟩) hA hP hD hS [0] [1, 2, 3, 4, 5] rfl rfl (by decide) (by decide) (fun _ u_r_12 H locs wr_12 hP hD hS => ?_)
                    have hP : va_P D vwCl [(mH, .inl (cI, 512, .inl fH)), (mI, .inl (cL, 1200, .inr (.inl fI))), (mJ, .inl (cI, 4, .inl (k4i j0 j1 j2 j3))), (mS, .inl (cI, 4, .inl (k4i st s1 s2 s3))), (mD, .inl (cL, 256, .inr (.inl fD))), (m0, .inr (8, [.ref mH, .int aM, .long aC, .int mM, .long mQ, .int oV, .int u_r_12, .int lI, .int sW, .int dP, .int sT, .long aT, .int 0, .int iW, .ref mI, .ref mJ, .ref mS, .ref mD, .int iH, .int aE, .int mN, .long sZ, .ref mX, .int tS, .int tA, .int tW, .ref mA, .ref mB, .ref mW, .ref mL, .int lS]))] H := hP
                    have hD : va_D A [(mH, .inl (cI, 512, .inl fH)), (mI, .inl (cL, 1200, .inr (.inl fI))), (mJ, .inl (cI, 4, .inl (k4i j0 j1 j2 j3))), (mS, .inl (cI, 4, .inl (k4i st s1 s2 s3))), (mD, .inl (cL, 256, .inr (.inl fD))), (m0, .inr (8, [.ref mH, .int aM, .long aC, .int mM, .long mQ, .int oV, .int u_r_12, .int lI, .int sW, .int dP, .int sT, .long aT, .int 0, .int iW, .ref mI, .ref mJ, .ref mS, .ref mD, .int iH, .int aE, .int mN, .long sZ, .ref mX, .int tS, .int tA, .int tW, .ref mA, .ref mB, .ref mW, .ref mL, .int lS]))] := hD
                    try dsimp only at wr_12
                    try simp only [Int32.reduceToInt, Int64.reduceToInt] at wr_12
                    refine lv_iconst (v := 0) hx hb dX8_copies_269 (by decide) ?_
                    refine kIret (u := (u_r_12, dP, 0, iW, fH, fD, fI, j0, j1, j2, j3, st, s1, s2, s3)) hx hb hr rfl hlocks hS dX8_copies_270 ?_ (hP.sub [5, 0, 1, 2, 3, 4] rfl) (hD.sub [5, 0, 1, 2, 3, 4] (by decide) rfl)
                    try dsimp only
                    repeat' (with_reducible apply And.intro)
                    all_goals first | with_reducible assumption | ((try simp only [jT_, jP_, jD_, jC_, jB_, jW_, Int32.reduceToInt, Int64.reduceToInt, true_or, or_true, true_and, and_true]) <;> omega)
                · have t_234_8 := c_234_8
                  try simp only [kb_eq0, kb_ne0, lg_cmp_lt, lg_cmp_le, lg_cmp_gt, lg_cmp_ge, lg_cmp_eq] at t_234_8
                  try simp only [Int32.lt_iff_toInt_lt, Int32.le_iff_toInt_le, ← Int32.toInt_inj, Int64.lt_iff_toInt_lt, Int64.le_iff_toInt_le, ← Int64.toInt_inj, Int32.toInt_toInt64, Int32.reduceToInt, Int64.reduceToInt] at t_234_8
                  refine lv_aload_n hx hb dX8_copies_237 rfl (lv_at hl 4 rfl) ?_
                  refine lv_lload hx hb dX8_copies_238 (lv_at hl 0 rfl) ?_
                  refine kCallVd (wr := [(mI, .inl (cL, 1200, .inr (.inl fI))), (mJ, .inl (cI, 4, .inl (k4i j0 j1 j2 j3))), (mS, .inl (cI, 4, .inl (k4i st s1 s2 s3))), (mD, .inl (cL, 256, .inr (.inl fD)))]) (va_runV (As := [.long vv]) (rest := []) ⟨hx, hb, hml, hown, hts⟩ (q_store l D cI cL cB cZ cT _ m0 mH mI mJ mS mD mX mA mB mW mL aM aC mM mQ oV pL lI sW dP sT aT 1 iW iH aE mN sZ tS tA tW lS fH vv (by omega)) (cwV 1 hts gX8_copies_X8_store rfl rfl rfl (by decide +kernel) ⟨Nat.le_of_ble_eq_true rfl, Nat.le_of_ble_eq_true rfl⟩) (kPreV hG hP hD [0, 1] rfl (by decide) 0 8 rfl rfl rfl) rfl rfl hl.1 rfl (lv_room (Nat.le_of_ble_eq_true rfl)) dX8_copies_240 ⟨Nat.le_of_ble_eq_true rfl, Nat.le_of_ble_eq_true rfl⟩) hA hP hD hS [0, 1] [2, 3, 4, 5] rfl rfl (by decide) (by decide) (fun _ u_r_13 H locs wr_13 hP hD hS => ?_)
                  have hP : va_P D vwCl [(mI, .inl (cL, 1200, .inr (.inl fI))), (mJ, .inl (cI, 4, .inl (k4i j0 j1 j2 j3))), (mS, .inl (cI, 4, .inl (k4i st s1 s2 s3))), (mD, .inl (cL, 256, .inr (.inl fD))), (m0, .inr (8, [.ref mH, .int aM, .long aC, .int mM, .long mQ, .int oV, .int pL, .int lI, .int sW, .int dP, .int sT, .long aT, .int 1, .int iW, .ref mI, .ref mJ, .ref mS, .ref mD, .int iH, .int aE, .int mN, .long sZ, .ref mX, .int tS, .int tA, .int tW, .ref mA, .ref mB, .ref mW, .ref mL, .int lS])), (mH, .inl (cI, 512, .inl u_r_13))] H := hP
                  have hD : va_D A [(mI, .inl (cL, 1200, .inr (.inl fI))), (mJ, .inl (cI, 4, .inl (k4i j0 j1 j2 j3))), (mS, .inl (cI, 4, .inl (k4i st s1 s2 s3))), (mD, .inl (cL, 256, .inr (.inl fD))), (m0, .inr (8, [.ref mH, .int aM, .long aC, .int mM, .long mQ, .int oV, .int pL, .int lI, .int sW, .int dP, .int sT, .long aT, .int 1, .int iW, .ref mI, .ref mJ, .ref mS, .ref mD, .int iH, .int aE, .int mN, .long sZ, .ref mX, .int tS, .int tA, .int tW, .ref mA, .ref mB, .ref mW, .ref mL, .int lS])), (mH, .inl (cI, 512, .inl u_r_13))] := hD
                  try dsimp only at wr_13
                  try simp only [Int32.reduceToInt, Int64.reduceToInt] at wr_13
                  refine lv_goto (tgt := 269) hx hb dX8_copies_243 (by decide) ?_
                  refine lv_iconst (v := 0) hx hb dX8_copies_269 (by decide) ?_
                  refine kIret (u := (pL, dP, 1, iW, u_r_13, fD, fI, j0, j1, j2, j3, st, s1, s2, s3)) hx hb hr rfl hlocks hS dX8_copies_270 ?_ (hP.sub [4, 5, 0, 1, 2, 3] rfl) (hD.sub [4, 5, 0, 1, 2, 3] (by decide) rfl)
                  try dsimp only
                  repeat' (with_reducible apply And.intro)
                  all_goals first | with_reducible assumption | ((try simp only [jT_, jP_, jD_, jC_, jB_, jW_, Int32.reduceToInt, Int64.reduceToInt, true_or, or_true, true_and, and_true]) <;> omega)
              refine lv_iload_n hx hb dX8_copies_165 rfl (lv_at hl 0 rfl) ?_
              refine lv_i2l hx hb dX8_copies_166 rfl ?_
              refine lv_lconst (v := 0) hx hb dX8_copies_167 (by decide) ?_
              refine lv_aload_n hx hb dX8_copies_168 rfl (lv_at hl 3 rfl) ?_
              refine va_get (D := D) (ci := 8) (v := .ref mJ) (C := RX8) (T := TX8) (N := 31) hx hb hts iX8_copies_X8 hown hK hP 0 rfl rfl 15 (by decide) (hts (.fieldLink RX8 17 "TapeCalculatorModel" "items" "[I") (List.mem_of_getElem? (i := 6) rfl)) (fun _ h9 => h9) rfl dX8_copies_169 ?_
              refine lv_iload_n hx hb dX8_copies_172 rfl (lv_at hl 1 rfl) ?_
              refine va_iald hx hb hK hP 3 0 rfl rfl (vp_in_iff.mpr (by decide)) dX8_copies_173 ?_
              refine lv_topi (fun x_14 ex_14 => ?_)
              obtain rfl : j0 = x_14 := ex_14.symm
              refine lv_iconst (v := 1) hx hb dX8_copies_174 (by decide) ?_
              refine lv_isub hx hb dX8_copies_175 ?_
              refine lv_topi (fun x_15 ex_15 => ?_)
              have hs0 := k_sub (a := j0) (b := 1) (by omega) (by decide)
              simp only [Int32.reduceToInt, show (-1 : Int32).toInt = -1 from rfl] at hs0
              rw [← ex_15] at hs0
              refine lv_i2l hx hb dX8_copies_176 rfl ?_
              refine kCallI (wr := [(m0, .inr (8, [.ref mH, .int aM, .long aC, .int mM, .long mQ, .int oV, .int pL, .int lI, .int sW, .int dP, .int sT, .long aT, .int 1, .int iW, .ref mI, .ref mJ, .ref mS, .ref mD, .int iH, .int aE, .int mN, .long sZ, .ref mX, .int tS, .int tA, .int tW, .ref mA, .ref mB, .ref mW, .ref mL, .int lS])), (mH, .inl (cI, 512, .inl fH)), (mI, .inl (cL, 1200, .inr (.inl fI))), (mJ, .inl (cI, 4, .inl (k4i j0 j1 j2 j3))), (mS, .inl (cI, 4, .inl (k4i s0 s1 s2 s3))), (mD, .inl (cL, 256, .inr (.inl fD)))]) (va_runS (As := [.long s0.toInt64, .long 0, .long x_15.toInt64]) (rest := []) ⟨hx, hb, hml, hown, hts⟩ (q_in l D cI cL cB cZ cT _ (s0.toInt64) 0 (x_15.toInt64)) (va_cwS 3 hts gX8_copies_X8_in rfl rfl rfl (by decide +kernel) ⟨Nat.le_of_ble_eq_true rfl, Nat.le_of_ble_eq_true rfl⟩) (kPreS hG hP hD [] rfl (by decide)) rfl rfl hl.1 rfl (lv_room (Nat.le_of_ble_eq_true rfl)) dX8_copies_177 ⟨Nat.le_of_ble_eq_true rfl, Nat.le_of_ble_eq_true rfl⟩) hA hP hD hS [] [0, 1, 2, 3, 4, 5] rfl rfl (by decide) (by decide) (fun r_16 u_r_16 H locs wr_16 hP hD hS => ?_)
              have hP : va_P D vwCl [(m0, .inr (8, [.ref mH, .int aM, .long aC, .int mM, .long mQ, .int oV, .int pL, .int lI, .int sW, .int dP, .int sT, .long aT, .int 1, .int iW, .ref mI, .ref mJ, .ref mS, .ref mD, .int iH, .int aE, .int mN, .long sZ, .ref mX, .int tS, .int tA, .int tW, .ref mA, .ref mB, .ref mW, .ref mL, .int lS])), (mH, .inl (cI, 512, .inl fH)), (mI, .inl (cL, 1200, .inr (.inl fI))), (mJ, .inl (cI, 4, .inl (k4i j0 j1 j2 j3))), (mS, .inl (cI, 4, .inl (k4i s0 s1 s2 s3))), (mD, .inl (cL, 256, .inr (.inl fD)))] H := hP
              have hD : va_D A [(m0, .inr (8, [.ref mH, .int aM, .long aC, .int mM, .long mQ, .int oV, .int pL, .int lI, .int sW, .int dP, .int sT, .long aT, .int 1, .int iW, .ref mI, .ref mJ, .ref mS, .ref mD, .int iH, .int aE, .int mN, .long sZ, .ref mX, .int tS, .int tA, .int tW, .ref mA, .ref mB, .ref mW, .ref mL, .int lS])), (mH, .inl (cI, 512, .inl fH)), (mI, .inl (cL, 1200, .inr (.inl fI))), (mJ, .inl (cI, 4, .inl (k4i j0 j1 j2 j3))), (mS, .inl (cI, 4, .inl (k4i s0 s1 s2 s3))), (mD, .inl (cL, 256, .inr (.inl fD)))] := hD
              try dsimp only at wr_16
              subst wr_16
              refine lv_if_eq (tgt := 198) hx hb dX8_copies_180 (by decide) (fun c_180_16 => ?_) (fun c_180_16 => ?_)
              · have t_180_16 := c_180_16
                try simp only [kb_eq0, kb_ne0, lg_cmp_lt, lg_cmp_le, lg_cmp_gt, lg_cmp_ge, lg_cmp_eq] at t_180_16
                try simp only [Int32.lt_iff_toInt_lt, Int32.le_iff_toInt_le, ← Int32.toInt_inj, Int64.lt_iff_toInt_lt, Int64.le_iff_toInt_le, ← Int64.toInt_inj, Int32.toInt_toInt64, Int32.reduceToInt, Int64.reduceToInt] at t_180_16
                refine lv_ldc2 (v := (-9)) hx hb hown (hts (.constantLong RX8 107 (-9)) (List.mem_of_getElem? (i := 8) rfl)) dX8_copies_198 ?_
                refine lv_lstore (lv' := [(4, .long (-9)), (3, .int s0), (2, .int 0), (1, .int 0), (0, .ref m0)]) hx hb dX8_copies_201 hl (by decide) rfl (fun ls hl => ?_)
                refine lv_lload hx hb dX8_copies_203 (lv_at hl 0 rfl) ?_
                refine lv_ldc2 (v := (-9)) hx hb hown (hts (.constantLong RX8 107 (-9)) (List.mem_of_getElem? (i := 8) rfl)) dX8_copies_205 ?_
                refine W.lcmp hx hb dX8_copies_208 ?_
                refine lv_topi (fun x_18 ex_18 => ?_)
                obtain rfl : x_18 = 0 := ex_18.trans (by decide)
                refine lv_if_eq (tgt := 230) hx hb dX8_copies_209 (by decide) (fun c_209_18 => ?_) (fun c_209_18 => ?_)
                · have t_209_18 := c_209_18
                  try simp only [kb_eq0, kb_ne0, lg_cmp_lt, lg_cmp_le, lg_cmp_gt, lg_cmp_ge, lg_cmp_eq] at t_209_18
                  try simp only [Int32.lt_iff_toInt_lt, Int32.le_iff_toInt_le, ← Int32.toInt_inj, Int64.lt_iff_toInt_lt, Int64.le_iff_toInt_le, ← Int64.toInt_inj, Int32.toInt_toInt64, Int32.reduceToInt, Int64.reduceToInt] at t_209_18
                  exact J230 (-9) s0 (by first | with_reducible assumption | ((try simp only [jT_, jP_, jD_, jC_, jB_, jW_, Int32.reduceToInt, Int64.reduceToInt, true_or, or_true, true_and, and_true]) <;> omega)) _ _ (hP.sub [0, 1, 2, 3, 4, 5] rfl) (hD.sub [0, 1, 2, 3, 4, 5] (by decide) rfl) hS ls (lv_sub hl [0, 1, 2, 3, 4] rfl)
                · exact absurd (by decide) c_209_18
              · have t_180_16 := c_180_16
                try simp only [kb_eq0, kb_ne0, lg_cmp_lt, lg_cmp_le, lg_cmp_gt, lg_cmp_ge, lg_cmp_eq] at t_180_16
                try simp only [Int32.lt_iff_toInt_lt, Int32.le_iff_toInt_le, ← Int32.toInt_inj, Int64.lt_iff_toInt_lt, Int64.le_iff_toInt_le, ← Int64.toInt_inj, Int32.toInt_toInt64, Int32.reduceToInt, Int64.reduceToInt] at t_180_16
                refine lv_aload_n hx hb dX8_copies_183 rfl (lv_at hl 3 rfl) ?_
                refine va_get (D := D) (ci := 8) (v := .ref mI) (C := RX8) (T := TX8) (N := 31) hx hb hts iX8_copies_X8 hown hK hP 0 rfl rfl 14 (by decide) (hts (.fieldLink RX8 13 "TapeCalculatorModel" "item" "[J") (List.mem_of_getElem? (i := 7) rfl)) (fun _ h9 => h9) rfl dX8_copies_184 ?_
                refine lv_sipush (v := 300) hx hb dX8_copies_187 (by decide) ?_
                refine lv_iload_n hx hb dX8_copies_190 rfl (lv_at hl 1 rfl) ?_
                refine lv_imul hx hb dX8_copies_191 ?_
                refine lv_topi (fun x_20 ex_20 => ?_)
                obtain rfl : x_20 = 0 := ex_20.trans (by decide)
                refine lv_iload_n hx hb dX8_copies_192 rfl (lv_at hl 0 rfl) ?_
                refine lv_iadd hx hb dX8_copies_193 ?_
                refine va_lald hx hb hK hP 2 1 rfl rfl (vp_in_iff.mpr (by have hx9 := k_addg (a := 0) (b := s0) (by decide) (by omega); simp only [Int32.reduceToInt] at hx9; omega)) dX8_copies_194 ?_
                refine lv_goto (tgt := 201) hx hb dX8_copies_195 (by decide) ?_
                refine lv_topl (fun x_21 ex_21 => ?_)
                refine lv_lstore (lv' := [(4, .long x_21), (3, .int s0), (2, .int 0), (1, .int 0), (0, .ref m0)]) hx hb dX8_copies_201 hl (by decide) rfl (fun ls hl => ?_)
                refine lv_lload hx hb dX8_copies_203 (lv_at hl 0 rfl) ?_
                refine lv_ldc2 (v := (-9)) hx hb hown (hts (.constantLong RX8 107 (-9)) (List.mem_of_getElem? (i := 8) rfl)) dX8_copies_205 ?_
                refine W.lcmp hx hb dX8_copies_208 ?_
                refine lv_if_eq (tgt := 230) hx hb dX8_copies_209 (by decide) (fun c_209_21 => ?_) (fun c_209_21 => ?_)
                · have t_209_21 := c_209_21
                  try simp only [kb_eq0, kb_ne0, lg_cmp_lt, lg_cmp_le, lg_cmp_gt, lg_cmp_ge, lg_cmp_eq] at t_209_21
                  try simp only [Int32.lt_iff_toInt_lt, Int32.le_iff_toInt_le, ← Int32.toInt_inj, Int64.lt_iff_toInt_lt, Int64.le_iff_toInt_le, ← Int64.toInt_inj, Int32.toInt_toInt64, Int32.reduceToInt, Int64.reduceToInt] at t_209_21
                  exact J230 x_21 s0 (by first | with_reducible assumption | ((try simp only [jT_, jP_, jD_, jC_, jB_, jW_, Int32.reduceToInt, Int64.reduceToInt, true_or, or_true, true_and, and_true]) <;> omega)) _ _ (hP.sub [0, 1, 2, 3, 4, 5] rfl) (hD.sub [0, 1, 2, 3, 4, 5] (by decide) rfl) hS ls (lv_sub hl [0, 1, 2, 3, 4] rfl)
                · have t_209_21 := c_209_21
                  try simp only [kb_eq0, kb_ne0, lg_cmp_lt, lg_cmp_le, lg_cmp_gt, lg_cmp_ge, lg_cmp_eq] at t_209_21
                  try simp only [Int32.lt_iff_toInt_lt, Int32.le_iff_toInt_le, ← Int32.toInt_inj, Int64.lt_iff_toInt_lt, Int64.le_iff_toInt_le, ← Int64.toInt_inj, Int32.toInt_toInt64, Int32.reduceToInt, Int64.reduceToInt] at t_209_21
                  refine lv_aload_n hx hb dX8_copies_212 rfl (lv_at hl 4 rfl) ?_
                  refine va_get (D := D) (ci := 8) (v := .ref mS) (C := RX8) (T := TX8) (N := 31) hx hb hts iX8_copies_X8 hown hK hP 0 rfl rfl 16 (by decide) (hts (.fieldLink RX8 20 "TapeCalculatorModel" "stands" "[I") (List.mem_of_getElem? (i := 5) rfl)) (fun _ h9 => h9) rfl dX8_copies_213 ?_
                  refine lv_iload_n hx hb dX8_copies_216 rfl (lv_at hl 2 rfl) ?_
                  refine lv_dup2_11 hx hb dX8_copies_217 rfl rfl ?_
                  refine va_iald hx hb hK hP 4 0 rfl rfl (vp_in_iff.mpr (by decide)) dX8_copies_218 ?_
                  refine lv_topi (fun x_23 ex_23 => ?_)
                  obtain rfl : s0 = x_23 := ex_23.symm
                  refine lv_iload_n hx hb dX8_copies_219 rfl (lv_at hl 3 rfl) ?_
                  refine lv_if_eq (tgt := 227) hx hb dX8_copies_220 (by decide) (fun c_220_23 => ?_) (fun c_220_23 => ?_)
                  · have t_220_23 := c_220_23
                    try simp only [kb_eq0, kb_ne0, lg_cmp_lt, lg_cmp_le, lg_cmp_gt, lg_cmp_ge, lg_cmp_eq] at t_220_23
                    try simp only [Int32.lt_iff_toInt_lt, Int32.le_iff_toInt_le, ← Int32.toInt_inj, Int64.lt_iff_toInt_lt, Int64.le_iff_toInt_le, ← Int64.toInt_inj, Int32.toInt_toInt64, Int32.reduceToInt, Int64.reduceToInt] at t_220_23
                    refine lv_iconst (v := 1) hx hb dX8_copies_227 (by decide) ?_
                    refine lv_iadd hx hb dX8_copies_228 ?_
                    refine lv_topi (fun x_25 ex_25 => ?_)
                    have hs2 := k_addg (a := s0) (b := 1) (by omega) (by decide)
                    simp only [Int32.reduceToInt, show (-1 : Int32).toInt = -1 from rfl] at hs2
                    rw [← ex_25] at hs2
                    refine va_iast hx hb hK hP hD hS 4 0 rfl rfl (vp_in_iff.mpr (by decide)) dX8_copies_229 (fun H locs hP hD hS => ?_)
                    rw [k4i_0] at hP hD
                    have hP : va_P D vwCl [(m0, .inr (8, [.ref mH, .int aM, .long aC, .int mM, .long mQ, .int oV, .int pL, .int lI, .int sW, .int dP, .int sT, .long aT, .int 1, .int iW, .ref mI, .ref mJ, .ref mS, .ref mD, .int iH, .int aE, .int mN, .long sZ, .ref mX, .int tS, .int tA, .int tW, .ref mA, .ref mB, .ref mW, .ref mL, .int lS])), (mH, .inl (cI, 512, .inl fH)), (mI, .inl (cL, 1200, .inr (.inl fI))), (mJ, .inl (cI, 4, .inl (k4i j0 j1 j2 j3))), (mS, .inl (cI, 4, .inl (k4i x_25 s1 s2 s3))), (mD, .inl (cL, 256, .inr (.inl fD)))] H := hP
                    have hD : va_D A [(m0, .inr (8, [.ref mH, .int aM, .long aC, .int mM, .long mQ, .int oV, .int pL, .int lI, .int sW, .int dP, .int sT, .long aT, .int 1, .int iW, .ref mI, .ref mJ, .ref mS, .ref mD, .int iH, .int aE, .int mN, .long sZ, .ref mX, .int tS, .int tA, .int tW, .ref mA, .ref mB, .ref mW, .ref mL, .int lS])), (mH, .inl (cI, 512, .inl fH)), (mI, .inl (cL, 1200, .inr (.inl fI))), (mJ, .inl (cI, 4, .inl (k4i j0 j1 j2 j3))), (mS, .inl (cI, 4, .inl (k4i x_25 s1 s2 s3))), (mD, .inl (cL, 256, .inr (.inl fD)))] := hD
                    exact J230 x_21 x_25 (by first | with_reducible assumption | ((try simp only [jT_, jP_, jD_, jC_, jB_, jW_, Int32.reduceToInt, Int64.reduceToInt, true_or, or_true, true_and, and_true]) <;> omega)) _ _ (hP.sub [0, 1, 2, 3, 4, 5] rfl) (hD.sub [0, 1, 2, 3, 4, 5] (by decide) rfl) hS ls (lv_sub hl [0, 1, 2, 3, 4] rfl)
                  · exact absurd (by decide) c_220_23
            · exact absurd (by decide) c_144_6
          · exact absurd (by decide) c_124_4
        · exact absurd (by decide) c_114_3
      · exact absurd (by decide) c_79_2
    · exact absurd (by decide) c_16_1
  · exact absurd c_4_0 (by decide)
set_option maxRecDepth 100000 in
set_option maxHeartbeats 4000000 in
theorem q_copies_2 (l : Launch) (D : va_G) (cI cL cB cZ cT : ClassId) (sz : Nat) (m0 mH mI mJ mS mD mX mA mB mW mL : Nat) (aM : Int32) (aC : Int64) (mM : Int32) (mQ : Int64) (oV pL lI sW dP sT : Int32) (aT : Int64) (iW iH aE mN : Int32) (sZ : Int64) (tS tA tW lS : Int32) (fH : Nat → Int32) (fI : Nat → Int64) (j0 j1 j2 j3 : Int32) (s0 s1 s2 s3 : Int32) (fD : Nat → Int64) (hpl : jP_ pL) (hdp : jD_ dP) (hch : jC_ 2) (hiw : jW_ iW 2) (ht0 : jT_ s0 j0) (ht1 : jT_ s1 j1) (ht2 : jT_ s2 j2) (ht3 : jT_ s3 j3) (had : 0 ≤ aE.toInt ∧ aE.toInt ≤ 511 ∧ (iH.toInt = 0 ∨ aE.toInt ≤ 510)) : kM (S := (Int32 × Int32 × Int32 × Int32 × (Nat → Int32) × (Nat → Int64) × (Nat → Int64) × Int32 × Int32 × Int32 × Int32 × Int32 × Int32 × Int32 × Int32)) l yX8_copies wsX8_copies ({ frames := 2, cells := 0, slots := 0, locals := 45 }) D (kT cI cL cB cZ cT) [.ref m0] [(m0, .inr (8, [.ref mH, .int aM, .long aC, .int mM, .long mQ, .int oV, .int pL, .int lI, .int sW, .int dP, .int sT, .long aT, .int 2, .int iW, .ref mI, .ref mJ, .ref mS, .ref mD, .int iH, .int aE, .int mN, .long sZ, .ref mX, .int tS, .int tA, .int tW, .ref mA, .ref mB, .ref mW, .ref mL, .int lS])), (mH, .inl (cI, 512, .inl fH)), (mI, .inl (cL, 1200, .inr (.inl fI))), (mJ, .inl (cI, 4, .inl (k4i j0 j1 j2 j3))), (mS, .inl (cI, 4, .inl (k4i s0 s1 s2 s3))), (mD, .inl (cL, 256, .inr (.inl fD)))] sz eI (fun r u => (0 ≤ r.toInt ∧ r.toInt ≤ 6) ∧ jP_ (u.1) ∧ jD_ (u.2.1) ∧ jC_ (u.2.2.1) ∧ jW_ (u.2.2.2.1) (u.2.2.1) ∧ jT_ (u.2.2.2.2.2.2.2.2.2.2.2.1) (u.2.2.2.2.2.2.2.1) ∧ jT_ (u.2.2.2.2.2.2.2.2.2.2.2.2.1) (u.2.2.2.2.2.2.2.2.1) ∧ jT_ (u.2.2.2.2.2.2.2.2.2.2.2.2.2.1) (u.2.2.2.2.2.2.2.2.2.1) ∧ jT_ (u.2.2.2.2.2.2.2.2.2.2.2.2.2.2) (u.2.2.2.2.2.2.2.2.2.2.1)) (fun u => [(m0, .inr (8, [.ref mH, .int aM, .long aC, .int mM, .long mQ, .int oV, .int u.1, .int lI, .int sW, .int u.2.1, .int sT, .long aT, .int u.2.2.1, .int u.2.2.2.1, .ref mI, .ref mJ, .ref mS, .ref mD, .int iH, .int aE, .int mN, .long sZ, .ref mX, .int tS, .int tA, .int tW, .ref mA, .ref mB, .ref mW, .ref mL, .int lS])), (mH, .inl (cI, 512, .inl u.2.2.2.2.1)), (mI, .inl (cL, 1200, .inr (.inl u.2.2.2.2.2.2.1))), (mJ, .inl (cI, 4, .inl (k4i u.2.2.2.2.2.2.2.1 u.2.2.2.2.2.2.2.2.1 u.2.2.2.2.2.2.2.2.2.1 u.2.2.2.2.2.2.2.2.2.2.1))), (mS, .inl (cI, 4, .inl (k4i u.2.2.2.2.2.2.2.2.2.2.2.1 u.2.2.2.2.2.2.2.2.2.2.2.2.1 u.2.2.2.2.2.2.2.2.2.2.2.2.2.1 u.2.2.2.2.2.2.2.2.2.2.2.2.2.2))), (mD, .inl (cL, 256, .inr (.inl u.2.2.2.2.2.1)))]) 0 0 := by
  refine kStart (cc := cX8_copies) (maxL := 6) (ret := (some .int)) (own := RX8) (by decide) rfl rfl (Nat.le_of_ble_eq_true rfl) ?_
  intro p e s m args below meth c A ls hx hb hr hml hown hts hlocks hnm hsz hA hG hP hD hS hl
  have hK := hG.1
  have hl : lv_has ls 6 [(0, .ref m0)] := hl
  have hiw1 : iW.toInt = 0 := by simp only [jW_, Int32.reduceToInt] at hiw; omega
  have hu1 : 0 ≤ s1.toInt ∧ s1.toInt ≤ j1.toInt ∧ j1.toInt ≤ 300 := ht1
  refine lv_aload_n hx hb dX8_copies_0 rfl (lv_at hl 0 rfl) ?_
  refine va_get (D := D) (ci := 8) (v := .int 2) (C := RX8) (T := TX8) (N := 31) hx hb hts iX8_copies_X8 hown hK hP 0 rfl rfl 12 (by decide) (hts (.fieldLink RX8 43 "TapeCalculatorModel" "chosen" "I") (List.mem_of_getElem? (i := 1) rfl)) (fun _ h9 => h9) rfl dX8_copies_1 ?_
  refine lv_if_ne (tgt := 10) hx hb dX8_copies_4 (by decide) (fun c_4_0 => ?_) (fun c_4_0 => ?_)
  · have t_4_0 := c_4_0
    try simp only [kb_eq0, kb_ne0, lg_cmp_lt, lg_cmp_le, lg_cmp_gt, lg_cmp_ge, lg_cmp_eq] at t_4_0
    try simp only [Int32.lt_iff_toInt_lt, Int32.le_iff_toInt_le, ← Int32.toInt_inj, Int64.lt_iff_toInt_lt, Int64.le_iff_toInt_le, ← Int64.toInt_inj, Int32.toInt_toInt64, Int32.reduceToInt, Int64.reduceToInt] at t_4_0
    refine lv_aload_n hx hb dX8_copies_10 rfl (lv_at hl 0 rfl) ?_
    refine va_get (D := D) (ci := 8) (v := .int 2) (C := RX8) (T := TX8) (N := 31) hx hb hts iX8_copies_X8 hown hK hP 0 rfl rfl 12 (by decide) (hts (.fieldLink RX8 43 "TapeCalculatorModel" "chosen" "I") (List.mem_of_getElem? (i := 1) rfl)) (fun _ h9 => h9) rfl dX8_copies_11 ?_
    refine lv_bipush (v := 12) hx hb dX8_copies_14 (by decide) ?_
    refine lv_icmp_le (tgt := 73) hx hb dX8_copies_16 (by decide) (fun c_16_1 => ?_) (fun c_16_1 => ?_)
    · have t_16_1 := c_16_1
      try simp only [kb_eq0, kb_ne0, lg_cmp_lt, lg_cmp_le, lg_cmp_gt, lg_cmp_ge, lg_cmp_eq] at t_16_1
      try simp only [Int32.lt_iff_toInt_lt, Int32.le_iff_toInt_le, ← Int32.toInt_inj, Int64.lt_iff_toInt_lt, Int64.le_iff_toInt_le, ← Int64.toInt_inj, Int32.toInt_toInt64, Int32.reduceToInt, Int64.reduceToInt] at t_16_1
      refine lv_aload_n hx hb dX8_copies_73 rfl (lv_at hl 0 rfl) ?_
      refine va_get (D := D) (ci := 8) (v := .int 2) (C := RX8) (T := TX8) (N := 31) hx hb hts iX8_copies_X8 hown hK hP 0 rfl rfl 12 (by decide) (hts (.fieldLink RX8 43 "TapeCalculatorModel" "chosen" "I") (List.mem_of_getElem? (i := 1) rfl)) (fun _ h9 => h9) rfl dX8_copies_74 ?_
      refine lv_bipush (v := 8) hx hb dX8_copies_77 (by decide) ?_
      refine lv_icmp_le (tgt := 109) hx hb dX8_copies_79 (by decide) (fun c_79_2 => ?_) (fun c_79_2 => ?_)
      · have t_79_2 := c_79_2
        try simp only [kb_eq0, kb_ne0, lg_cmp_lt, lg_cmp_le, lg_cmp_gt, lg_cmp_ge, lg_cmp_eq] at t_79_2
        try simp only [Int32.lt_iff_toInt_lt, Int32.le_iff_toInt_le, ← Int32.toInt_inj, Int64.lt_iff_toInt_lt, Int64.le_iff_toInt_le, ← Int64.toInt_inj, Int32.toInt_toInt64, Int32.reduceToInt, Int64.reduceToInt] at t_79_2
        refine lv_aload_n hx hb dX8_copies_109 rfl (lv_at hl 0 rfl) ?_
        refine va_get (D := D) (ci := 8) (v := .int 2) (C := RX8) (T := TX8) (N := 31) hx hb hts iX8_copies_X8 hown hK hP 0 rfl rfl 12 (by decide) (hts (.fieldLink RX8 43 "TapeCalculatorModel" "chosen" "I") (List.mem_of_getElem? (i := 1) rfl)) (fun _ h9 => h9) rfl dX8_copies_110 ?_
        refine lv_iconst (v := 4) hx hb dX8_copies_113 (by decide) ?_
        refine lv_icmp_le (tgt := 121) hx hb dX8_copies_114 (by decide) (fun c_114_3 => ?_) (fun c_114_3 => ?_)
        · have t_114_3 := c_114_3
          try simp only [kb_eq0, kb_ne0, lg_cmp_lt, lg_cmp_le, lg_cmp_gt, lg_cmp_ge, lg_cmp_eq] at t_114_3
          try simp only [Int32.lt_iff_toInt_lt, Int32.le_iff_toInt_le, ← Int32.toInt_inj, Int64.lt_iff_toInt_lt, Int64.le_iff_toInt_le, ← Int64.toInt_inj, Int32.toInt_toInt64, Int32.reduceToInt, Int64.reduceToInt] at t_114_3
          refine lv_iconst (v := 0) hx hb dX8_copies_121 (by decide) ?_
          refine lv_istore_n (lv' := [(1, .int 0), (0, .ref m0)]) hx hb dX8_copies_122 rfl hl (by decide) rfl (fun ls hl => ?_)
          refine lv_iload_n hx hb dX8_copies_123 rfl (lv_at hl 0 rfl) ?_
          refine lv_if_eq (tgt := 136) hx hb dX8_copies_124 (by decide) (fun c_124_4 => ?_) (fun c_124_4 => ?_)
          · have t_124_4 := c_124_4
            try simp only [kb_eq0, kb_ne0, lg_cmp_lt, lg_cmp_le, lg_cmp_gt, lg_cmp_ge, lg_cmp_eq] at t_124_4
            try simp only [Int32.lt_iff_toInt_lt, Int32.le_iff_toInt_le, ← Int32.toInt_inj, Int64.lt_iff_toInt_lt, Int64.le_iff_toInt_le, ← Int64.toInt_inj, Int32.toInt_toInt64, Int32.reduceToInt, Int64.reduceToInt] at t_124_4
            refine lv_aload_n hx hb dX8_copies_136 rfl (lv_at hl 1 rfl) ?_
            refine va_get (D := D) (ci := 8) (v := .int 2) (C := RX8) (T := TX8) (N := 31) hx hb hts iX8_copies_X8 hown hK hP 0 rfl rfl 12 (by decide) (hts (.fieldLink RX8 43 "TapeCalculatorModel" "chosen" "I") (List.mem_of_getElem? (i := 1) rfl)) (fun _ h9 => h9) rfl dX8_copies_137 ?_
            refine lv_iconst (v := 1) hx hb dX8_copies_140 (by decide) ?_
            refine lv_isub hx hb dX8_copies_141 ?_
            refine lv_topi (fun x_6 ex_6 => ?_)
            obtain rfl : x_6 = 1 := ex_6.trans (by decide)
            refine lv_istore_n (lv' := [(2, .int 1), (1, .int 0), (0, .ref m0)]) hx hb dX8_copies_142 rfl hl (by decide) rfl (fun ls hl => ?_)
            refine lv_iload_n hx hb dX8_copies_143 rfl (lv_at hl 1 rfl) ?_
            refine lv_if_eq (tgt := 158) hx hb dX8_copies_144 (by decide) (fun c_144_6 => ?_) (fun c_144_6 => ?_)
            · have t_144_6 := c_144_6
              try simp only [kb_eq0, kb_ne0, lg_cmp_lt, lg_cmp_le, lg_cmp_gt, lg_cmp_ge, lg_cmp_eq] at t_144_6
              try simp only [Int32.lt_iff_toInt_lt, Int32.le_iff_toInt_le, ← Int32.toInt_inj, Int64.lt_iff_toInt_lt, Int64.le_iff_toInt_le, ← Int64.toInt_inj, Int32.toInt_toInt64, Int32.reduceToInt, Int64.reduceToInt] at t_144_6
              refine lv_aload_n hx hb dX8_copies_158 rfl (lv_at hl 2 rfl) ?_
              refine va_get (D := D) (ci := 8) (v := .ref mS) (C := RX8) (T := TX8) (N := 31) hx hb hts iX8_copies_X8 hown hK hP 0 rfl rfl 16 (by decide) (hts (.fieldLink RX8 20 "TapeCalculatorModel" "stands" "[I") (List.mem_of_getElem? (i := 5) rfl)) (fun _ h9 => h9) rfl dX8_copies_159 ?_
              refine lv_iload_n hx hb dX8_copies_162 rfl (lv_at hl 0 rfl) ?_
              refine va_iald hx hb hK hP 4 0 rfl rfl (vp_in_iff.mpr (by decide)) dX8_copies_163 ?_
              refine lv_topi (fun x_8 ex_8 => ?_)
              obtain rfl : s1 = x_8 := ex_8.symm
              refine lv_istore_n (lv' := [(3, .int s1), (2, .int 1), (1, .int 0), (0, .ref m0)]) hx hb dX8_copies_164 rfl hl (by decide) rfl (fun ls hl => ?_)
              have J230 : ∀ (vv : Int64) (st : Int32), jT_ st j1 → ∀ (H : Heap) (locs : List Loc), va_P D vwCl [(m0, .inr (8, [.ref mH, .int aM, .long aC, .int mM, .long mQ, .int oV, .int pL, .int lI, .int sW, .int dP, .int sT, .long aT, .int 2, .int iW, .ref mI, .ref mJ, .ref mS, .ref mD, .int iH, .int aE, .int mN, .long sZ, .ref mX, .int tS, .int tA, .int tW, .ref mA, .ref mB, .ref mW, .ref mL, .int lS])), (mH, .inl (cI, 512, .inl fH)), (mI, .inl (cL, 1200, .inr (.inl fI))), (mJ, .inl (cI, 4, .inl (k4i j0 j1 j2 j3))), (mS, .inl (cI, 4, .inl (k4i s0 st s2 s3))), (mD, .inl (cL, 256, .inr (.inl fD)))] H → va_D A [(m0, .inr (8, [.ref mH, .int aM, .long aC, .int mM, .long mQ, .int oV, .int pL, .int lI, .int sW, .int dP, .int sT, .long aT, .int 2, .int iW, .ref mI, .ref mJ, .ref mS, .ref mD, .int iH, .int aE, .int mN, .long sZ, .ref mX, .int tS, .int tA, .int tW, .ref mA, .ref mB, .ref mW, .ref mL, .int lS])), (mH, .inl (cI, 512, .inl fH)), (mI, .inl (cL, 1200, .inr (.inl fI))), (mJ, .inl (cI, 4, .inl (k4i j0 j1 j2 j3))), (mS, .inl (cI, 4, .inl (k4i s0 st s2 s3))), (mD, .inl (cL, 256, .inr (.inl fD)))] → va_S A s.heap H locs → ∀ ls : Array Slot, lv_has ls 6 [(4, .long vv), (3, .int s1), (2, .int 1), (1, .int 0), (0, .ref m0)] → W p l e ({ frames := 2, cells := 0, slots := 0, locals := 45 }) s m args below meth c H locs 0 0 (MQ below (kQ (S := (Int32 × Int32 × Int32 × Int32 × (Nat → Int32) × (Nat → Int64) × (Nat → Int64) × Int32 × Int32 × Int32 × Int32 × Int32 × Int32 × Int32 × Int32)) eI (fun r u => (0 ≤ r.toInt ∧ r.toInt ≤ 6) ∧ jP_ (u.1) ∧ jD_ (u.2.1) ∧ jC_ (u.2.2.1) ∧ jW_ (u.2.2.2.1) (u.2.2.1) ∧ jT_ (u.2.2.2.2.2.2.2.2.2.2.2.1) (u.2.2.2.2.2.2.2.1) ∧ jT_ (u.2.2.2.2.2.2.2.2.2.2.2.2.1) (u.2.2.2.2.2.2.2.2.1) ∧ jT_ (u.2.2.2.2.2.2.2.2.2.2.2.2.2.1) (u.2.2.2.2.2.2.2.2.2.1) ∧ jT_ (u.2.2.2.2.2.2.2.2.2.2.2.2.2.2) (u.2.2.2.2.2.2.2.2.2.2.1)) D (fun u => [(m0, .inr (8, [.ref mH, .int aM, .long aC, .int mM, .long mQ, .int oV, .int u.1, .int lI, .int sW, .int u.2.1, .int sT, .long aT, .int u.2.2.1, .int u.2.2.2.1, .ref mI, .ref mJ, .ref mS, .ref mD, .int iH, .int aE, .int mN, .long sZ, .ref mX, .int tS, .int tA, .int tW, .ref mA, .ref mB, .ref mW, .ref mL, .int lS])), (mH, .inl (cI, 512, .inl u.2.2.2.2.1)), (mI, .inl (cL, 1200, .inr (.inl u.2.2.2.2.2.2.1))), (mJ, .inl (cI, 4, .inl (k4i u.2.2.2.2.2.2.2.1 u.2.2.2.2.2.2.2.2.1 u.2.2.2.2.2.2.2.2.2.1 u.2.2.2.2.2.2.2.2.2.2.1))), (mS, .inl (cI, 4, .inl (k4i u.2.2.2.2.2.2.2.2.2.2.2.1 u.2.2.2.2.2.2.2.2.2.2.2.2.1 u.2.2.2.2.2.2.2.2.2.2.2.2.2.1 u.2.2.2.2.2.2.2.2.2.2.2.2.2.2))), (mD, .inl (cL, 256, .inr (.inl u.2.2.2.2.2.1)))]) A) args s 0 0 A) (F0 m 230 ls []) := by
                intro vv st hst H locs hP hD hS ls hl
                refine lv_lload hx hb dX8_copies_230 (lv_at hl 0 rfl) ?_
                refine lv_lconst (v := 0) hx hb dX8_copies_232 (by decide) ?_
                refine W.lcmp hx hb dX8_copies_233 ?_
                refine lv_if_lt (tgt := 246) hx hb dX8_copies_234 (by decide) (fun c_234_8 => ?_) (fun c_234_8 => ?_)
                · have t_234_8 := c_234_8
                  try simp only [kb_eq0, kb_ne0, lg_cmp_lt, lg_cmp_le, lg_cmp_gt, lg_cmp_ge, lg_cmp_eq] at t_234_8
                  try simp only [Int32.lt_iff_toInt_lt, Int32.le_iff_toInt_le, ← Int32.toInt_inj, Int64.lt_iff_toInt_lt, Int64.le_iff_toInt_le, ← Int64.toInt_inj, Int32.toInt_toInt64, Int32.reduceToInt, Int64.reduceToInt] at t_234_8
                  refine lv_aload_n hx hb dX8_copies_246 rfl (lv_at hl 4 rfl) ?_
                  refine lv_iconst (v := 0) hx hb dX8_copies_247 (by decide) ?_
                  refine va_put (D := D) (ci := 8) (v := .int 0) (ty := .int) (C := RX8) (T := TX8) (N := 31) hx hb hts iX8_copies_X8 tyX8 tyX8_ok nmX8 hown hK hP hD hS 0 rfl rfl 12 (by decide) (hts (.fieldLink RX8 43 "TapeCalculatorModel" "chosen" "I") (List.mem_of_getElem? (i := 1) rfl)) (fun _ h9 => h9) rfl (by decide +kernel) rfl rfl (Nat.le_of_ble_eq_true rfl) dX8_copies_248 (fun H locs hP hD hS => ?_)
                  have hP : va_P D vwCl [(m0, .inr (8, [.ref mH, .int aM, .long aC, .int mM, .long mQ, .int oV, .int pL, .int lI, .int sW, .int dP, .int sT, .long aT, .int 0, .int iW, .ref mI, .ref mJ, .ref mS, .ref mD, .int iH, .int aE, .int mN, .long sZ, .ref mX, .int tS, .int tA, .int tW, .ref mA, .ref mB, .ref mW, .ref mL, .int lS])), (mH, .inl (cI, 512, .inl fH)), (mI, .inl (cL, 1200, .inr (.inl fI))), (mJ, .inl (cI, 4, .inl (k4i j0 j1 j2 j3))), (mS, .inl (cI, 4, .inl (k4i s0 st s2 s3))), (mD, .inl (cL, 256, .inr (.inl fD)))] H := hP
                  have hD : va_D A [(m0, .inr (8, [.ref mH, .int aM, .long aC, .int mM, .long mQ, .int oV, .int pL, .int lI, .int sW, .int dP, .int sT, .long aT, .int 0, .int iW, .ref mI, .ref mJ, .ref mS, .ref mD, .int iH, .int aE, .int mN, .long sZ, .ref mX, .int tS, .int tA, .int tW, .ref mA, .ref mB, .ref mW, .ref mL, .int lS])), (mH, .inl (cI, 512, .inl fH)), (mI, .inl (cL, 1200, .inr (.inl fI))), (mJ, .inl (cI, 4, .inl (k4i j0 j1 j2 j3))), (mS, .inl (cI, 4, .inl (k4i s0 st s2 s3))), (mD, .inl (cL, 256, .inr (.inl fD)))] := hD
                  refine lv_aload_n hx hb dX8_copies_251 rfl (lv_at hl 4 rfl) ?_
                  refine lv_lload hx hb dX8_copies_252 (lv_at hl 0 rfl) ?_
                  refine lv_ldc2 (v := (-2)) hx hb hown (hts (.constantLong RX8 111 (-2)) (List.mem_of_getElem? (i := 9) rfl)) dX8_copies_254 ?_
                  refine W.lcmp hx hb dX8_copies_257 ?_
                  refine lv_if_ne (tgt := 265) hx hb dX8_copies_258 (by decide) (fun c_258_9 => ?_) (fun c_258_9 => ?_)
                  · have t_258_9 := c_258_9
                    try simp only [kb_eq0, kb_ne0, lg_cmp_lt, lg_cmp_le, lg_cmp_gt, lg_cmp_ge, lg_cmp_eq] at t_258_9
                    try simp only [Int32.lt_iff_toInt_lt, Int32.le_iff_toInt_le, ← Int32.toInt_inj, Int64.lt_iff_toInt_lt, Int64.le_iff_toInt_le, ← Int64.toInt_inj, Int32.toInt_toInt64, Int32.reduceToInt, Int64.reduceToInt] at t_258_9
                    refine lv_iconst (v := 1) hx hb dX8_copies_265 (by decide) ?_
                    refine kCallVd (wr := [(mH, .inl (cI, 512, .inl fH)), (mI, .inl (cL, 1200, .inr (.inl fI))), (mJ, .inl (cI, 4, .inl (k4i j0 j1 j2 j3))), (mS, .inl (cI, 4, .inl (k4i s0 st s2 s3))), (mD, .inl (cL, 256, .inr (.inl fD)))]) (va_runV (As := [.int 1]) (rest := []) ⟨hx, hb, hml, hown, hts⟩ (q_go l D cI cL cB cZ cT _ m0 mH mI mJ mS mD mX mA mB mW mL aM aC mM mQ oV pL lI sW dP sT aT 0 iW iH aE mN sZ tS tA tW lS 1) (cwV 1 hts gX8_copies_X8_go rfl rfl rfl (by decide +kernel) ⟨Nat.le_of_ble_eq_true rfl, Nat.le_of_ble_eq_true rfl⟩) (kPreV hG hP hD [0] rfl (by decide) 0 8 rfl rfl rfl) rfl rfl hl.1 rfl (lv_room (Nat.le_of_ble_eq_true rfl)) dX8_copies_266 ⟨Nat.le_of_ble_eq_true rfl, Nat.le_of_ble_eq_true rfl⟩) hA hP hD hS [0] [1, 2, 3, 4, 5] rfl rfl (by decide) (by decide) (fun _ u_r_11 H locs wr_11 hP hD hS => ?_)
                    have hP : va_P D vwCl [(mH, .inl (cI, 512, .inl fH)), (mI, .inl (cL, 1200, .inr (.inl fI))), (mJ, .inl (cI, 4, .inl (k4i j0 j1 j2 j3))), (mS, .inl (cI, 4, .inl (k4i s0 st s2 s3))), (mD, .inl (cL, 256, .inr (.inl fD))), (m0, .inr (8, [.ref mH, .int aM, .long aC, .int mM, .long mQ, .int oV, .int u_r_11, .int lI, .int sW, .int dP, .int sT, .long aT, .int 0, .int iW, .ref mI, .ref mJ, .ref mS, .ref mD, .int iH, .int aE, .int mN, .long sZ, .ref mX, .int tS, .int tA, .int tW, .ref mA, .ref mB, .ref mW, .ref mL, .int lS]))] H := hP
                    have hD : va_D A [(mH, .inl (cI, 512, .inl fH)), (mI, .inl (cL, 1200, .inr (.inl fI))), (mJ, .inl (cI, 4, .inl (k4i j0 j1 j2 j3))), (mS, .inl (cI, 4, .inl (k4i s0 st s2 s3))), (mD, .inl (cL, 256, .inr (.inl fD))), (m0, .inr (8, [.ref mH, .int aM, .long aC, .int mM, .long mQ, .int oV, .int u_r_11, .int lI, .int sW, .int dP, .int sT, .long aT, .int 0, .int iW, .ref mI, .ref mJ, .ref mS, .ref mD, .int iH, .int aE, .int mN, .long sZ, .ref mX, .int tS, .int tA, .int tW, .ref mA, .ref mB, .ref mW, .ref mL, .int lS]))] := hD
                    try dsimp only at wr_11
                    try simp only [Int32.reduceToInt, Int64.reduceToInt] at wr_11
                    refine lv_iconst (v := 0) hx hb dX8_copies_269 (by decide) ?_
                    refine kIret (u := (u_r_11, dP, 0, iW, fH, fD, fI, j0, j1, j2, j3, s0, st, s2, s3)) hx hb hr rfl hlocks hS dX8_copies_270 ?_ (hP.sub [5, 0, 1, 2, 3, 4] rfl) (hD.sub [5, 0, 1, 2, 3, 4] (by decide) rfl)
                    try dsimp only
                    repeat' (with_reducible apply And.intro)
                    all_goals first | with_reducible assumption | ((try simp only [jT_, jP_, jD_, jC_, jB_, jW_, Int32.reduceToInt, Int64.reduceToInt, true_or, or_true, true_and, and_true]) <;> omega)
                  · have t_258_9 := c_258_9
                    try simp only [kb_eq0, kb_ne0, lg_cmp_lt, lg_cmp_le, lg_cmp_gt, lg_cmp_ge, lg_cmp_eq] at t_258_9
                    try simp only [Int32.lt_iff_toInt_lt, Int32.le_iff_toInt_le, ← Int32.toInt_inj, Int64.lt_iff_toInt_lt, Int64.le_iff_toInt_le, ← Int64.toInt_inj, Int32.toInt_toInt64, Int32.reduceToInt, Int64.reduceToInt] at t_258_9
                    refine lv_iconst (v := 2) hx hb dX8_copies_261 (by decide) ?_
                    refine lv_goto (tgt := 266) hx hb dX8_copies_262 (by decide) ?_
                    refine kCallVd (wr := [(mH, .inl (cI, 512, .inl fH)), (mI, .inl (cL, 1200, .inr (.inl fI))), (mJ, .inl (cI, 4, .inl (k4i j0 j1 j2 j3))), (mS, .inl (cI, 4, .inl (k4i s0 st s2 s3))), (mD, .inl (cL, 256, .inr (.inl fD)))]) (va_runV (As := [.int 2]) (rest := []) ⟨hx, hb, hml, hown, hts⟩ (q_go l D cI cL cB cZ cT _ m0 mH mI mJ mS mD mX mA mB mW mL aM aC mM mQ oV pL lI sW dP sT aT 0 iW iH aE mN sZ tS tA tW lS 2) (cwV 1 hts gX8_copies_X8_go rfl rfl rfl (by decide +kernel) ⟨Nat.le_of_ble_eq_true rfl, Nat.le_of_ble_eq_true rfl⟩) (kPreV hG hP hD [0] rfl (by decide) 0 8 rfl rfl rfl) rfl rfl hl.1 rfl (lv_room (Nat.le_of_ble_eq_true rfl)) dX8_copies_266 ⟨Nat.le_of_ble_eq_true rfl, Nat.le_of_ble_eq_true rfl⟩) hA hP hD hS [0] [1, 2, 3, 4, 5] rfl rfl (by decide) (by decide) (fun _ u_r_12 H locs wr_12 hP hD hS => ?_)
                    have hP : va_P D vwCl [(mH, .inl (cI, 512, .inl fH)), (mI, .inl (cL, 1200, .inr (.inl fI))), (mJ, .inl (cI, 4, .inl (k4i j0 j1 j2 j3))), (mS, .inl (cI, 4, .inl (k4i s0 st s2 s3))), (mD, .inl (cL, 256, .inr (.inl fD))), (m0, .inr (8, [.ref mH, .int aM, .long aC, .int mM, .long mQ, .int oV, .int u_r_12, .int lI, .int sW, .int dP, .int sT, .long aT, .int 0, .int iW, .ref mI, .ref mJ, .ref mS, .ref mD, .int iH, .int aE, .int mN, .long sZ, .ref mX, .int tS, .int tA, .int tW, .ref mA, .ref mB, .ref mW, .ref mL, .int lS]))] H := hP
                    have hD : va_D A [(mH, .inl (cI, 512, .inl fH)), (mI, .inl (cL, 1200, .inr (.inl fI))), (mJ, .inl (cI, 4, .inl (k4i j0 j1 j2 j3))), (mS, .inl (cI, 4, .inl (k4i s0 st s2 s3))), (mD, .inl (cL, 256, .inr (.inl fD))), (m0, .inr (8, [.ref mH, .int aM, .long aC, .int mM, .long mQ, .int oV, .int u_r_12, .int lI, .int sW, .int dP, .int sT, .long aT, .int 0, .int iW, .ref mI, .ref mJ, .ref mS, .ref mD, .int iH, .int aE, .int mN, .long sZ, .ref mX, .int tS, .int tA, .int tW, .ref mA, .ref mB, .ref mW, .ref mL, .int lS]))] := hD
                    try dsimp only at wr_12
                    try simp only [Int32.reduceToInt, Int64.reduceToInt] at wr_12
                    refine lv_iconst (v := 0) hx hb dX8_copies_269 (by decide) ?_
                    refine kIret (u := (u_r_12, dP, 0, iW, fH, fD, fI, j0, j1, j2, j3, s0, st, s2, s3)) hx hb hr rfl hlocks hS dX8_copies_270 ?_ (hP.sub [5, 0, 1, 2, 3, 4] rfl) (hD.sub [5, 0, 1, 2, 3, 4] (by decide) rfl)
                    try dsimp only
                    repeat' (with_reducible apply And.intro)
                    all_goals first | with_reducible assumption | ((try simp only [jT_, jP_, jD_, jC_, jB_, jW_, Int32.reduceToInt, Int64.reduceToInt, true_or, or_true, true_and, and_true]) <;> omega)
                · have t_234_8 := c_234_8
                  try simp only [kb_eq0, kb_ne0, lg_cmp_lt, lg_cmp_le, lg_cmp_gt, lg_cmp_ge, lg_cmp_eq] at t_234_8
                  try simp only [Int32.lt_iff_toInt_lt, Int32.le_iff_toInt_le, ← Int32.toInt_inj, Int64.lt_iff_toInt_lt, Int64.le_iff_toInt_le, ← Int64.toInt_inj, Int32.toInt_toInt64, Int32.reduceToInt, Int64.reduceToInt] at t_234_8
                  refine lv_aload_n hx hb dX8_copies_237 rfl (lv_at hl 4 rfl) ?_
                  refine lv_lload hx hb dX8_copies_238 (lv_at hl 0 rfl) ?_
                  refine kCallVd (wr := [(mI, .inl (cL, 1200, .inr (.inl fI))), (mJ, .inl (cI, 4, .inl (k4i j0 j1 j2 j3))), (mS, .inl (cI, 4, .inl (k4i s0 st s2 s3))), (mD, .inl (cL, 256, .inr (.inl fD)))]) (va_runV (As := [.long vv]) (rest := []) ⟨hx, hb, hml, hown, hts⟩ (q_store l D cI cL cB cZ cT _ m0 mH mI mJ mS mD mX mA mB mW mL aM aC mM mQ oV pL lI sW dP sT aT 2 iW iH aE mN sZ tS tA tW lS fH vv (by omega)) (cwV 1 hts gX8_copies_X8_store rfl rfl rfl (by decide +kernel) ⟨Nat.le_of_ble_eq_true rfl, Nat.le_of_ble_eq_true rfl⟩) (kPreV hG hP hD [0, 1] rfl (by decide) 0 8 rfl rfl rfl) rfl rfl hl.1 rfl (lv_room (Nat.le_of_ble_eq_true rfl)) dX8_copies_240 ⟨Nat.le_of_ble_eq_true rfl, Nat.le_of_ble_eq_true rfl⟩) hA hP hD hS [0, 1] [2, 3, 4, 5] rfl rfl (by decide) (by decide) (fun _ u_r_13 H locs wr_13 hP hD hS => ?_)
                  have hP : va_P D vwCl [(mI, .inl (cL, 1200, .inr (.inl fI))), (mJ, .inl (cI, 4, .inl (k4i j0 j1 j2 j3))), (mS, .inl (cI, 4, .inl (k4i s0 st s2 s3))), (mD, .inl (cL, 256, .inr (.inl fD))), (m0, .inr (8, [.ref mH, .int aM, .long aC, .int mM, .long mQ, .int oV, .int pL, .int lI, .int sW, .int dP, .int sT, .long aT, .int 2, .int iW, .ref mI, .ref mJ, .ref mS, .ref mD, .int iH, .int aE, .int mN, .long sZ, .ref mX, .int tS, .int tA, .int tW, .ref mA, .ref mB, .ref mW, .ref mL, .int lS])), (mH, .inl (cI, 512, .inl u_r_13))] H := hP
                  have hD : va_D A [(mI, .inl (cL, 1200, .inr (.inl fI))), (mJ, .inl (cI, 4, .inl (k4i j0 j1 j2 j3))), (mS, .inl (cI, 4, .inl (k4i s0 st s2 s3))), (mD, .inl (cL, 256, .inr (.inl fD))), (m0, .inr (8, [.ref mH, .int aM, .long aC, .int mM, .long mQ, .int oV, .int pL, .int lI, .int sW, .int dP, .int sT, .long aT, .int 2, .int iW, .ref mI, .ref mJ, .ref mS, .ref mD, .int iH, .int aE, .int mN, .long sZ, .ref mX, .int tS, .int tA, .int tW, .ref mA, .ref mB, .ref mW, .ref mL, .int lS])), (mH, .inl (cI, 512, .inl u_r_13))] := hD
                  try dsimp only at wr_13
                  try simp only [Int32.reduceToInt, Int64.reduceToInt] at wr_13
                  refine lv_goto (tgt := 269) hx hb dX8_copies_243 (by decide) ?_
                  refine lv_iconst (v := 0) hx hb dX8_copies_269 (by decide) ?_
                  refine kIret (u := (pL, dP, 2, iW, u_r_13, fD, fI, j0, j1, j2, j3, s0, st, s2, s3)) hx hb hr rfl hlocks hS dX8_copies_270 ?_ (hP.sub [4, 5, 0, 1, 2, 3] rfl) (hD.sub [4, 5, 0, 1, 2, 3] (by decide) rfl)
                  try dsimp only
                  repeat' (with_reducible apply And.intro)
                  all_goals first | with_reducible assumption | ((try simp only [jT_, jP_, jD_, jC_, jB_, jW_, Int32.reduceToInt, Int64.reduceToInt, true_or, or_true, true_and, and_true]) <;> omega)
              refine lv_iload_n hx hb dX8_copies_165 rfl (lv_at hl 0 rfl) ?_
              refine lv_i2l hx hb dX8_copies_166 rfl ?_
              refine lv_lconst (v := 0) hx hb dX8_copies_167 (by decide) ?_
              refine lv_aload_n hx hb dX8_copies_168 rfl (lv_at hl 3 rfl) ?_
              refine va_get (D := D) (ci := 8) (v := .ref mJ) (C := RX8) (T := TX8) (N := 31) hx hb hts iX8_copies_X8 hown hK hP 0 rfl rfl 15 (by decide) (hts (.fieldLink RX8 17 "TapeCalculatorModel" "items" "[I") (List.mem_of_getElem? (i := 6) rfl)) (fun _ h9 => h9) rfl dX8_copies_169 ?_
              refine lv_iload_n hx hb dX8_copies_172 rfl (lv_at hl 1 rfl) ?_
              refine va_iald hx hb hK hP 3 0 rfl rfl (vp_in_iff.mpr (by decide)) dX8_copies_173 ?_
              refine lv_topi (fun x_14 ex_14 => ?_)
              obtain rfl : j1 = x_14 := ex_14.symm
              refine lv_iconst (v := 1) hx hb dX8_copies_174 (by decide) ?_
              refine lv_isub hx hb dX8_copies_175 ?_
              refine lv_topi (fun x_15 ex_15 => ?_)
              have hs0 := k_sub (a := j1) (b := 1) (by omega) (by decide)
              simp only [Int32.reduceToInt, show (-1 : Int32).toInt = -1 from rfl] at hs0
              rw [← ex_15] at hs0
              refine lv_i2l hx hb dX8_copies_176 rfl ?_
              refine kCallI (wr := [(m0, .inr (8, [.ref mH, .int aM, .long aC, .int mM, .long mQ, .int oV, .int pL, .int lI, .int sW, .int dP, .int sT, .long aT, .int 2, .int iW, .ref mI, .ref mJ, .ref mS, .ref mD, .int iH, .int aE, .int mN, .long sZ, .ref mX, .int tS, .int tA, .int tW, .ref mA, .ref mB, .ref mW, .ref mL, .int lS])), (mH, .inl (cI, 512, .inl fH)), (mI, .inl (cL, 1200, .inr (.inl fI))), (mJ, .inl (cI, 4, .inl (k4i j0 j1 j2 j3))), (mS, .inl (cI, 4, .inl (k4i s0 s1 s2 s3))), (mD, .inl (cL, 256, .inr (.inl fD)))]) (va_runS (As := [.long s1.toInt64, .long 0, .long x_15.toInt64]) (rest := []) ⟨hx, hb, hml, hown, hts⟩ (q_in l D cI cL cB cZ cT _ (s1.toInt64) 0 (x_15.toInt64)) (va_cwS 3 hts gX8_copies_X8_in rfl rfl rfl (by decide +kernel) ⟨Nat.le_of_ble_eq_true rfl, Nat.le_of_ble_eq_true rfl⟩) (kPreS hG hP hD [] rfl (by decide)) rfl rfl hl.1 rfl (lv_room (Nat.le_of_ble_eq_true rfl)) dX8_copies_177 ⟨Nat.le_of_ble_eq_true rfl, Nat.le_of_ble_eq_true rfl⟩) hA hP hD hS [] [0, 1, 2, 3, 4, 5] rfl rfl (by decide) (by decide) (fun r_16 u_r_16 H locs wr_16 hP hD hS => ?_)
              have hP : va_P D vwCl [(m0, .inr (8, [.ref mH, .int aM, .long aC, .int mM, .long mQ, .int oV, .int pL, .int lI, .int sW, .int dP, .int sT, .long aT, .int 2, .int iW, .ref mI, .ref mJ, .ref mS, .ref mD, .int iH, .int aE, .int mN, .long sZ, .ref mX, .int tS, .int tA, .int tW, .ref mA, .ref mB, .ref mW, .ref mL, .int lS])), (mH, .inl (cI, 512, .inl fH)), (mI, .inl (cL, 1200, .inr (.inl fI))), (mJ, .inl (cI, 4, .inl (k4i j0 j1 j2 j3))), (mS, .inl (cI, 4, .inl (k4i s0 s1 s2 s3))), (mD, .inl (cL, 256, .inr (.inl fD)))] H := hP
              have hD : va_D A [(m0, .inr (8, [.ref mH, .int aM, .long aC, .int mM, .long mQ, .int oV, .int pL, .int lI, .int sW, .int dP, .int sT, .long aT, .int 2, .int iW, .ref mI, .ref mJ, .ref mS, .ref mD, .int iH, .int aE, .int mN, .long sZ, .ref mX, .int tS, .int tA, .int tW, .ref mA, .ref mB, .ref mW, .ref mL, .int lS])), (mH, .inl (cI, 512, .inl fH)), (mI, .inl (cL, 1200, .inr (.inl fI))), (mJ, .inl (cI, 4, .inl (k4i j0 j1 j2 j3))), (mS, .inl (cI, 4, .inl (k4i s0 s1 s2 s3))), (mD, .inl (cL, 256, .inr (.inl fD)))] := hD
              try dsimp only at wr_16
              subst wr_16
              refine lv_if_eq (tgt := 198) hx hb dX8_copies_180 (by decide) (fun c_180_16 => ?_) (fun c_180_16 => ?_)
              · have t_180_16 := c_180_16
                try simp only [kb_eq0, kb_ne0, lg_cmp_lt, lg_cmp_le, lg_cmp_gt, lg_cmp_ge, lg_cmp_eq] at t_180_16
                try simp only [Int32.lt_iff_toInt_lt, Int32.le_iff_toInt_le, ← Int32.toInt_inj, Int64.lt_iff_toInt_lt, Int64.le_iff_toInt_le, ← Int64.toInt_inj, Int32.toInt_toInt64, Int32.reduceToInt, Int64.reduceToInt] at t_180_16
                refine lv_ldc2 (v := (-9)) hx hb hown (hts (.constantLong RX8 107 (-9)) (List.mem_of_getElem? (i := 8) rfl)) dX8_copies_198 ?_
                refine lv_lstore (lv' := [(4, .long (-9)), (3, .int s1), (2, .int 1), (1, .int 0), (0, .ref m0)]) hx hb dX8_copies_201 hl (by decide) rfl (fun ls hl => ?_)
                refine lv_lload hx hb dX8_copies_203 (lv_at hl 0 rfl) ?_
                refine lv_ldc2 (v := (-9)) hx hb hown (hts (.constantLong RX8 107 (-9)) (List.mem_of_getElem? (i := 8) rfl)) dX8_copies_205 ?_
                refine W.lcmp hx hb dX8_copies_208 ?_
                refine lv_topi (fun x_18 ex_18 => ?_)
                obtain rfl : x_18 = 0 := ex_18.trans (by decide)
                refine lv_if_eq (tgt := 230) hx hb dX8_copies_209 (by decide) (fun c_209_18 => ?_) (fun c_209_18 => ?_)
                · have t_209_18 := c_209_18
                  try simp only [kb_eq0, kb_ne0, lg_cmp_lt, lg_cmp_le, lg_cmp_gt, lg_cmp_ge, lg_cmp_eq] at t_209_18
                  try simp only [Int32.lt_iff_toInt_lt, Int32.le_iff_toInt_le, ← Int32.toInt_inj, Int64.lt_iff_toInt_lt, Int64.le_iff_toInt_le, ← Int64.toInt_inj, Int32.toInt_toInt64, Int32.reduceToInt, Int64.reduceToInt] at t_209_18
                  exact J230 (-9) s1 (by first | with_reducible assumption | ((try simp only [jT_, jP_, jD_, jC_, jB_, jW_, Int32.reduceToInt, Int64.reduceToInt, true_or, or_true, true_and, and_true]) <;> omega)) _ _ (hP.sub [0, 1, 2, 3, 4, 5] rfl) (hD.sub [0, 1, 2, 3, 4, 5] (by decide) rfl) hS ls (lv_sub hl [0, 1, 2, 3, 4] rfl)
                · exact absurd (by decide) c_209_18
              · have t_180_16 := c_180_16
                try simp only [kb_eq0, kb_ne0, lg_cmp_lt, lg_cmp_le, lg_cmp_gt, lg_cmp_ge, lg_cmp_eq] at t_180_16
                try simp only [Int32.lt_iff_toInt_lt, Int32.le_iff_toInt_le, ← Int32.toInt_inj, Int64.lt_iff_toInt_lt, Int64.le_iff_toInt_le, ← Int64.toInt_inj, Int32.toInt_toInt64, Int32.reduceToInt, Int64.reduceToInt] at t_180_16
                refine lv_aload_n hx hb dX8_copies_183 rfl (lv_at hl 3 rfl) ?_
                refine va_get (D := D) (ci := 8) (v := .ref mI) (C := RX8) (T := TX8) (N := 31) hx hb hts iX8_copies_X8 hown hK hP 0 rfl rfl 14 (by decide) (hts (.fieldLink RX8 13 "TapeCalculatorModel" "item" "[J") (List.mem_of_getElem? (i := 7) rfl)) (fun _ h9 => h9) rfl dX8_copies_184 ?_
                refine lv_sipush (v := 300) hx hb dX8_copies_187 (by decide) ?_
                refine lv_iload_n hx hb dX8_copies_190 rfl (lv_at hl 1 rfl) ?_
                refine lv_imul hx hb dX8_copies_191 ?_
                refine lv_topi (fun x_20 ex_20 => ?_)
                obtain rfl : x_20 = 300 := ex_20.trans (by decide)
                refine lv_iload_n hx hb dX8_copies_192 rfl (lv_at hl 0 rfl) ?_
                refine lv_iadd hx hb dX8_copies_193 ?_
                refine va_lald hx hb hK hP 2 1 rfl rfl (vp_in_iff.mpr (by have hx9 := k_addg (a := 300) (b := s1) (by decide) (by omega); simp only [Int32.reduceToInt] at hx9; omega)) dX8_copies_194 ?_
                refine lv_goto (tgt := 201) hx hb dX8_copies_195 (by decide) ?_
                refine lv_topl (fun x_21 ex_21 => ?_)
                refine lv_lstore (lv' := [(4, .long x_21), (3, .int s1), (2, .int 1), (1, .int 0), (0, .ref m0)]) hx hb dX8_copies_201 hl (by decide) rfl (fun ls hl => ?_)
                refine lv_lload hx hb dX8_copies_203 (lv_at hl 0 rfl) ?_
                refine lv_ldc2 (v := (-9)) hx hb hown (hts (.constantLong RX8 107 (-9)) (List.mem_of_getElem? (i := 8) rfl)) dX8_copies_205 ?_
                refine W.lcmp hx hb dX8_copies_208 ?_
                refine lv_if_eq (tgt := 230) hx hb dX8_copies_209 (by decide) (fun c_209_21 => ?_) (fun c_209_21 => ?_)
                · have t_209_21 := c_209_21
                  try simp only [kb_eq0, kb_ne0, lg_cmp_lt, lg_cmp_le, lg_cmp_gt, lg_cmp_ge, lg_cmp_eq] at t_209_21
                  try simp only [Int32.lt_iff_toInt_lt, Int32.le_iff_toInt_le, ← Int32.toInt_inj, Int64.lt_iff_toInt_lt, Int64.le_iff_toInt_le, ← Int64.toInt_inj, Int32.toInt_toInt64, Int32.reduceToInt, Int64.reduceToInt] at t_209_21
                  exact J230 x_21 s1 (by first | with_reducible assumption | ((try simp only [jT_, jP_, jD_, jC_, jB_, jW_, Int32.reduceToInt, Int64.reduceToInt, true_or, or_true, true_and, and_true]) <;> omega)) _ _ (hP.sub [0, 1, 2, 3, 4, 5] rfl) (hD.sub [0, 1, 2, 3, 4, 5] (by decide) rfl) hS ls (lv_sub hl [0, 1, 2, 3, 4] rfl)
                · have t_209_21 := c_209_21
                  try simp only [kb_eq0, kb_ne0, lg_cmp_lt, lg_cmp_le, lg_cmp_gt, lg_cmp_ge, lg_cmp_eq] at t_209_21
                  try simp only [Int32.lt_iff_toInt_lt, Int32.le_iff_toInt_le, ← Int32.toInt_inj, Int64.lt_iff_toInt_lt, Int64.le_iff_toInt_le, ← Int64.toInt_inj, Int32.toInt_toInt64, Int32.reduceToInt, Int64.reduceToInt] at t_209_21
                  refine lv_aload_n hx hb dX8_copies_212 rfl (lv_at hl 4 rfl) ?_
                  refine va_get (D := D) (ci := 8) (v := .ref mS) (C := RX8) (T := TX8) (N := 31) hx hb hts iX8_copies_X8 hown hK hP 0 rfl rfl 16 (by decide) (hts (.fieldLink RX8 20 "TapeCalculatorModel" "stands" "[I") (List.mem_of_getElem? (i := 5) rfl)) (fun _ h9 => h9) rfl dX8_copies_213 ?_
                  refine lv_iload_n hx hb dX8_copies_216 rfl (lv_at hl 2 rfl) ?_
                  refine lv_dup2_11 hx hb dX8_copies_217 rfl rfl ?_
                  refine va_iald hx hb hK hP 4 0 rfl rfl (vp_in_iff.mpr (by decide)) dX8_copies_218 ?_
                  refine lv_topi (fun x_23 ex_23 => ?_)
                  obtain rfl : s1 = x_23 := ex_23.symm
                  refine lv_iload_n hx hb dX8_copies_219 rfl (lv_at hl 3 rfl) ?_
                  refine lv_if_eq (tgt := 227) hx hb dX8_copies_220 (by decide) (fun c_220_23 => ?_) (fun c_220_23 => ?_)
                  · have t_220_23 := c_220_23
                    try simp only [kb_eq0, kb_ne0, lg_cmp_lt, lg_cmp_le, lg_cmp_gt, lg_cmp_ge, lg_cmp_eq] at t_220_23
                    try simp only [Int32.lt_iff_toInt_lt, Int32.le_iff_toInt_le, ← Int32.toInt_inj, Int64.lt_iff_toInt_lt, Int64.le_iff_toInt_le, ← Int64.toInt_inj, Int32.toInt_toInt64, Int32.reduceToInt, Int64.reduceToInt] at t_220_23
                    refine lv_iconst (v := 1) hx hb dX8_copies_227 (by decide) ?_
                    refine lv_iadd hx hb dX8_copies_228 ?_
                    refine lv_topi (fun x_25 ex_25 => ?_)
                    have hs2 := k_addg (a := s1) (b := 1) (by omega) (by decide)
                    simp only [Int32.reduceToInt, show (-1 : Int32).toInt = -1 from rfl] at hs2
                    rw [← ex_25] at hs2
                    refine va_iast hx hb hK hP hD hS 4 0 rfl rfl (vp_in_iff.mpr (by decide)) dX8_copies_229 (fun H locs hP hD hS => ?_)
                    rw [k4i_1] at hP hD
                    have hP : va_P D vwCl [(m0, .inr (8, [.ref mH, .int aM, .long aC, .int mM, .long mQ, .int oV, .int pL, .int lI, .int sW, .int dP, .int sT, .long aT, .int 2, .int iW, .ref mI, .ref mJ, .ref mS, .ref mD, .int iH, .int aE, .int mN, .long sZ, .ref mX, .int tS, .int tA, .int tW, .ref mA, .ref mB, .ref mW, .ref mL, .int lS])), (mH, .inl (cI, 512, .inl fH)), (mI, .inl (cL, 1200, .inr (.inl fI))), (mJ, .inl (cI, 4, .inl (k4i j0 j1 j2 j3))), (mS, .inl (cI, 4, .inl (k4i s0 x_25 s2 s3))), (mD, .inl (cL, 256, .inr (.inl fD)))] H := hP
                    have hD : va_D A [(m0, .inr (8, [.ref mH, .int aM, .long aC, .int mM, .long mQ, .int oV, .int pL, .int lI, .int sW, .int dP, .int sT, .long aT, .int 2, .int iW, .ref mI, .ref mJ, .ref mS, .ref mD, .int iH, .int aE, .int mN, .long sZ, .ref mX, .int tS, .int tA, .int tW, .ref mA, .ref mB, .ref mW, .ref mL, .int lS])), (mH, .inl (cI, 512, .inl fH)), (mI, .inl (cL, 1200, .inr (.inl fI))), (mJ, .inl (cI, 4, .inl (k4i j0 j1 j2 j3))), (mS, .inl (cI, 4, .inl (k4i s0 x_25 s2 s3))), (mD, .inl (cL, 256, .inr (.inl fD)))] := hD
                    exact J230 x_21 x_25 (by first | with_reducible assumption | ((try simp only [jT_, jP_, jD_, jC_, jB_, jW_, Int32.reduceToInt, Int64.reduceToInt, true_or, or_true, true_and, and_true]) <;> omega)) _ _ (hP.sub [0, 1, 2, 3, 4, 5] rfl) (hD.sub [0, 1, 2, 3, 4, 5] (by decide) rfl) hS ls (lv_sub hl [0, 1, 2, 3, 4] rfl)
                  · exact absurd (by decide) c_220_23
            · exact absurd (by decide) c_144_6
          · exact absurd (by decide) c_124_4
        · exact absurd (by decide) c_114_3
      · exact absurd (by decide) c_79_2
    · exact absurd (by decide) c_16_1
  · exact absurd c_4_0 (by decide)
set_option maxRecDepth 100000 in
set_option maxHeartbeats 4000000 in
theorem q_copies_3 (l : Launch) (D : va_G) (cI cL cB cZ cT : ClassId) (sz : Nat) (m0 mH mI mJ mS mD mX mA mB mW mL : Nat) (aM : Int32) (aC : Int64) (mM : Int32) (mQ : Int64) (oV pL lI sW dP sT : Int32) (aT : Int64) (iW iH aE mN : Int32) (sZ : Int64) (tS tA tW lS : Int32) (fH : Nat → Int32) (fI : Nat → Int64) (j0 j1 j2 j3 : Int32) (s0 s1 s2 s3 : Int32) (fD : Nat → Int64) (hpl : jP_ pL) (hdp : jD_ dP) (hch : jC_ 3) (hiw : jW_ iW 3) (ht0 : jT_ s0 j0) (ht1 : jT_ s1 j1) (ht2 : jT_ s2 j2) (ht3 : jT_ s3 j3) (had : 0 ≤ aE.toInt ∧ aE.toInt ≤ 511 ∧ (iH.toInt = 0 ∨ aE.toInt ≤ 510)) : kM (S := (Int32 × Int32 × Int32 × Int32 × (Nat → Int32) × (Nat → Int64) × (Nat → Int64) × Int32 × Int32 × Int32 × Int32 × Int32 × Int32 × Int32 × Int32)) l yX8_copies wsX8_copies ({ frames := 2, cells := 0, slots := 0, locals := 45 }) D (kT cI cL cB cZ cT) [.ref m0] [(m0, .inr (8, [.ref mH, .int aM, .long aC, .int mM, .long mQ, .int oV, .int pL, .int lI, .int sW, .int dP, .int sT, .long aT, .int 3, .int iW, .ref mI, .ref mJ, .ref mS, .ref mD, .int iH, .int aE, .int mN, .long sZ, .ref mX, .int tS, .int tA, .int tW, .ref mA, .ref mB, .ref mW, .ref mL, .int lS])), (mH, .inl (cI, 512, .inl fH)), (mI, .inl (cL, 1200, .inr (.inl fI))), (mJ, .inl (cI, 4, .inl (k4i j0 j1 j2 j3))), (mS, .inl (cI, 4, .inl (k4i s0 s1 s2 s3))), (mD, .inl (cL, 256, .inr (.inl fD)))] sz eI (fun r u => (0 ≤ r.toInt ∧ r.toInt ≤ 6) ∧ jP_ (u.1) ∧ jD_ (u.2.1) ∧ jC_ (u.2.2.1) ∧ jW_ (u.2.2.2.1) (u.2.2.1) ∧ jT_ (u.2.2.2.2.2.2.2.2.2.2.2.1) (u.2.2.2.2.2.2.2.1) ∧ jT_ (u.2.2.2.2.2.2.2.2.2.2.2.2.1) (u.2.2.2.2.2.2.2.2.1) ∧ jT_ (u.2.2.2.2.2.2.2.2.2.2.2.2.2.1) (u.2.2.2.2.2.2.2.2.2.1) ∧ jT_ (u.2.2.2.2.2.2.2.2.2.2.2.2.2.2) (u.2.2.2.2.2.2.2.2.2.2.1)) (fun u => [(m0, .inr (8, [.ref mH, .int aM, .long aC, .int mM, .long mQ, .int oV, .int u.1, .int lI, .int sW, .int u.2.1, .int sT, .long aT, .int u.2.2.1, .int u.2.2.2.1, .ref mI, .ref mJ, .ref mS, .ref mD, .int iH, .int aE, .int mN, .long sZ, .ref mX, .int tS, .int tA, .int tW, .ref mA, .ref mB, .ref mW, .ref mL, .int lS])), (mH, .inl (cI, 512, .inl u.2.2.2.2.1)), (mI, .inl (cL, 1200, .inr (.inl u.2.2.2.2.2.2.1))), (mJ, .inl (cI, 4, .inl (k4i u.2.2.2.2.2.2.2.1 u.2.2.2.2.2.2.2.2.1 u.2.2.2.2.2.2.2.2.2.1 u.2.2.2.2.2.2.2.2.2.2.1))), (mS, .inl (cI, 4, .inl (k4i u.2.2.2.2.2.2.2.2.2.2.2.1 u.2.2.2.2.2.2.2.2.2.2.2.2.1 u.2.2.2.2.2.2.2.2.2.2.2.2.2.1 u.2.2.2.2.2.2.2.2.2.2.2.2.2.2))), (mD, .inl (cL, 256, .inr (.inl u.2.2.2.2.2.1)))]) 0 0 := by
  refine kStart (cc := cX8_copies) (maxL := 6) (ret := (some .int)) (own := RX8) (by decide) rfl rfl (Nat.le_of_ble_eq_true rfl) ?_
  intro p e s m args below meth c A ls hx hb hr hml hown hts hlocks hnm hsz hA hG hP hD hS hl
  have hK := hG.1
  have hl : lv_has ls 6 [(0, .ref m0)] := hl
  have hiw1 : iW.toInt = 0 := by simp only [jW_, Int32.reduceToInt] at hiw; omega
  have hu2 : 0 ≤ s2.toInt ∧ s2.toInt ≤ j2.toInt ∧ j2.toInt ≤ 300 := ht2
  refine lv_aload_n hx hb dX8_copies_0 rfl (lv_at hl 0 rfl) ?_
  refine va_get (D := D) (ci := 8) (v := .int 3) (C := RX8) (T := TX8) (N := 31) hx hb hts iX8_copies_X8 hown hK hP 0 rfl rfl 12 (by decide) (hts (.fieldLink RX8 43 "TapeCalculatorModel" "chosen" "I") (List.mem_of_getElem? (i := 1) rfl)) (fun _ h9 => h9) rfl dX8_copies_1 ?_
  refine lv_if_ne (tgt := 10) hx hb dX8_copies_4 (by decide) (fun c_4_0 => ?_) (fun c_4_0 => ?_)
  · have t_4_0 := c_4_0
    try simp only [kb_eq0, kb_ne0, lg_cmp_lt, lg_cmp_le, lg_cmp_gt, lg_cmp_ge, lg_cmp_eq] at t_4_0
    try simp only [Int32.lt_iff_toInt_lt, Int32.le_iff_toInt_le, ← Int32.toInt_inj, Int64.lt_iff_toInt_lt, Int64.le_iff_toInt_le, ← Int64.toInt_inj, Int32.toInt_toInt64, Int32.reduceToInt, Int64.reduceToInt] at t_4_0
    refine lv_aload_n hx hb dX8_copies_10 rfl (lv_at hl 0 rfl) ?_
    refine va_get (D := D) (ci := 8) (v := .int 3) (C := RX8) (T := TX8) (N := 31) hx hb hts iX8_copies_X8 hown hK hP 0 rfl rfl 12 (by decide) (hts (.fieldLink RX8 43 "TapeCalculatorModel" "chosen" "I") (List.mem_of_getElem? (i := 1) rfl)) (fun _ h9 => h9) rfl dX8_copies_11 ?_
    refine lv_bipush (v := 12) hx hb dX8_copies_14 (by decide) ?_
    refine lv_icmp_le (tgt := 73) hx hb dX8_copies_16 (by decide) (fun c_16_1 => ?_) (fun c_16_1 => ?_)
    · have t_16_1 := c_16_1
      try simp only [kb_eq0, kb_ne0, lg_cmp_lt, lg_cmp_le, lg_cmp_gt, lg_cmp_ge, lg_cmp_eq] at t_16_1
      try simp only [Int32.lt_iff_toInt_lt, Int32.le_iff_toInt_le, ← Int32.toInt_inj, Int64.lt_iff_toInt_lt, Int64.le_iff_toInt_le, ← Int64.toInt_inj, Int32.toInt_toInt64, Int32.reduceToInt, Int64.reduceToInt] at t_16_1
      refine lv_aload_n hx hb dX8_copies_73 rfl (lv_at hl 0 rfl) ?_
      refine va_get (D := D) (ci := 8) (v := .int 3) (C := RX8) (T := TX8) (N := 31) hx hb hts iX8_copies_X8 hown hK hP 0 rfl rfl 12 (by decide) (hts (.fieldLink RX8 43 "TapeCalculatorModel" "chosen" "I") (List.mem_of_getElem? (i := 1) rfl)) (fun _ h9 => h9) rfl dX8_copies_74 ?_
      refine lv_bipush (v := 8) hx hb dX8_copies_77 (by decide) ?_
      refine lv_icmp_le (tgt := 109) hx hb dX8_copies_79 (by decide) (fun c_79_2 => ?_) (fun c_79_2 => ?_)
      · have t_79_2 := c_79_2
        try simp only [kb_eq0, kb_ne0, lg_cmp_lt, lg_cmp_le, lg_cmp_gt, lg_cmp_ge, lg_cmp_eq] at t_79_2
        try simp only [Int32.lt_iff_toInt_lt, Int32.le_iff_toInt_le, ← Int32.toInt_inj, Int64.lt_iff_toInt_lt, Int64.le_iff_toInt_le, ← Int64.toInt_inj, Int32.toInt_toInt64, Int32.reduceToInt, Int64.reduceToInt] at t_79_2
        refine lv_aload_n hx hb dX8_copies_109 rfl (lv_at hl 0 rfl) ?_
        refine va_get (D := D) (ci := 8) (v := .int 3) (C := RX8) (T := TX8) (N := 31) hx hb hts iX8_copies_X8 hown hK hP 0 rfl rfl 12 (by decide) (hts (.fieldLink RX8 43 "TapeCalculatorModel" "chosen" "I") (List.mem_of_getElem? (i := 1) rfl)) (fun _ h9 => h9) rfl dX8_copies_110 ?_
        refine lv_iconst (v := 4) hx hb dX8_copies_113 (by decide) ?_
        refine lv_icmp_le (tgt := 121) hx hb dX8_copies_114 (by decide) (fun c_114_3 => ?_) (fun c_114_3 => ?_)
        · have t_114_3 := c_114_3
          try simp only [kb_eq0, kb_ne0, lg_cmp_lt, lg_cmp_le, lg_cmp_gt, lg_cmp_ge, lg_cmp_eq] at t_114_3
          try simp only [Int32.lt_iff_toInt_lt, Int32.le_iff_toInt_le, ← Int32.toInt_inj, Int64.lt_iff_toInt_lt, Int64.le_iff_toInt_le, ← Int64.toInt_inj, Int32.toInt_toInt64, Int32.reduceToInt, Int64.reduceToInt] at t_114_3
          refine lv_iconst (v := 0) hx hb dX8_copies_121 (by decide) ?_
          refine lv_istore_n (lv' := [(1, .int 0), (0, .ref m0)]) hx hb dX8_copies_122 rfl hl (by decide) rfl (fun ls hl => ?_)
          refine lv_iload_n hx hb dX8_copies_123 rfl (lv_at hl 0 rfl) ?_
          refine lv_if_eq (tgt := 136) hx hb dX8_copies_124 (by decide) (fun c_124_4 => ?_) (fun c_124_4 => ?_)
          · have t_124_4 := c_124_4
            try simp only [kb_eq0, kb_ne0, lg_cmp_lt, lg_cmp_le, lg_cmp_gt, lg_cmp_ge, lg_cmp_eq] at t_124_4
            try simp only [Int32.lt_iff_toInt_lt, Int32.le_iff_toInt_le, ← Int32.toInt_inj, Int64.lt_iff_toInt_lt, Int64.le_iff_toInt_le, ← Int64.toInt_inj, Int32.toInt_toInt64, Int32.reduceToInt, Int64.reduceToInt] at t_124_4
            refine lv_aload_n hx hb dX8_copies_136 rfl (lv_at hl 1 rfl) ?_
            refine va_get (D := D) (ci := 8) (v := .int 3) (C := RX8) (T := TX8) (N := 31) hx hb hts iX8_copies_X8 hown hK hP 0 rfl rfl 12 (by decide) (hts (.fieldLink RX8 43 "TapeCalculatorModel" "chosen" "I") (List.mem_of_getElem? (i := 1) rfl)) (fun _ h9 => h9) rfl dX8_copies_137 ?_
            refine lv_iconst (v := 1) hx hb dX8_copies_140 (by decide) ?_
            refine lv_isub hx hb dX8_copies_141 ?_
            refine lv_topi (fun x_6 ex_6 => ?_)
            obtain rfl : x_6 = 2 := ex_6.trans (by decide)
            refine lv_istore_n (lv' := [(2, .int 2), (1, .int 0), (0, .ref m0)]) hx hb dX8_copies_142 rfl hl (by decide) rfl (fun ls hl => ?_)
            refine lv_iload_n hx hb dX8_copies_143 rfl (lv_at hl 1 rfl) ?_
            refine lv_if_eq (tgt := 158) hx hb dX8_copies_144 (by decide) (fun c_144_6 => ?_) (fun c_144_6 => ?_)
            · have t_144_6 := c_144_6
              try simp only [kb_eq0, kb_ne0, lg_cmp_lt, lg_cmp_le, lg_cmp_gt, lg_cmp_ge, lg_cmp_eq] at t_144_6
              try simp only [Int32.lt_iff_toInt_lt, Int32.le_iff_toInt_le, ← Int32.toInt_inj, Int64.lt_iff_toInt_lt, Int64.le_iff_toInt_le, ← Int64.toInt_inj, Int32.toInt_toInt64, Int32.reduceToInt, Int64.reduceToInt] at t_144_6
              refine lv_aload_n hx hb dX8_copies_158 rfl (lv_at hl 2 rfl) ?_
              refine va_get (D := D) (ci := 8) (v := .ref mS) (C := RX8) (T := TX8) (N := 31) hx hb hts iX8_copies_X8 hown hK hP 0 rfl rfl 16 (by decide) (hts (.fieldLink RX8 20 "TapeCalculatorModel" "stands" "[I") (List.mem_of_getElem? (i := 5) rfl)) (fun _ h9 => h9) rfl dX8_copies_159 ?_
              refine lv_iload_n hx hb dX8_copies_162 rfl (lv_at hl 0 rfl) ?_
              refine va_iald hx hb hK hP 4 0 rfl rfl (vp_in_iff.mpr (by decide)) dX8_copies_163 ?_
              refine lv_topi (fun x_8 ex_8 => ?_)
              obtain rfl : s2 = x_8 := ex_8.symm
              refine lv_istore_n (lv' := [(3, .int s2), (2, .int 2), (1, .int 0), (0, .ref m0)]) hx hb dX8_copies_164 rfl hl (by decide) rfl (fun ls hl => ?_)
              have J230 : ∀ (vv : Int64) (st : Int32), jT_ st j2 → ∀ (H : Heap) (locs : List Loc), va_P D vwCl [(m0, .inr (8, [.ref mH, .int aM, .long aC, .int mM, .long mQ, .int oV, .int pL, .int lI, .int sW, .int dP, .int sT, .long aT, .int 3, .int iW, .ref mI, .ref mJ, .ref mS, .ref mD, .int iH, .int aE, .int mN, .long sZ, .ref mX, .int tS, .int tA, .int tW, .ref mA, .ref mB, .ref mW, .ref mL, .int lS])), (mH, .inl (cI, 512, .inl fH)), (mI, .inl (cL, 1200, .inr (.inl fI))), (mJ, .inl (cI, 4, .inl (k4i j0 j1 j2 j3))), (mS, .inl (cI, 4, .inl (k4i s0 s1 st s3))), (mD, .inl (cL, 256, .inr (.inl fD)))] H → va_D A [(m0, .inr (8, [.ref mH, .int aM, .long aC, .int mM, .long mQ, .int oV, .int pL, .int lI, .int sW, .int dP, .int sT, .long aT, .int 3, .int iW, .ref mI, .ref mJ, .ref mS, .ref mD, .int iH, .int aE, .int mN, .long sZ, .ref mX, .int tS, .int tA, .int tW, .ref mA, .ref mB, .ref mW, .ref mL, .int lS])), (mH, .inl (cI, 512, .inl fH)), (mI, .inl (cL, 1200, .inr (.inl fI))), (mJ, .inl (cI, 4, .inl (k4i j0 j1 j2 j3))), (mS, .inl (cI, 4, .inl (k4i s0 s1 st s3))), (mD, .inl (cL, 256, .inr (.inl fD)))] → va_S A s.heap H locs → ∀ ls : Array Slot, lv_has ls 6 [(4, .long vv), (3, .int s2), (2, .int 2), (1, .int 0), (0, .ref m0)] → W p l e ({ frames := 2, cells := 0, slots := 0, locals := 45 }) s m args below meth c H locs 0 0 (MQ below (kQ (S := (Int32 × Int32 × Int32 × Int32 × (Nat → Int32) × (Nat → Int64) × (Nat → Int64) × Int32 × Int32 × Int32 × Int32 × Int32 × Int32 × Int32 × Int32)) eI (fun r u => (0 ≤ r.toInt ∧ r.toInt ≤ 6) ∧ jP_ (u.1) ∧ jD_ (u.2.1) ∧ jC_ (u.2.2.1) ∧ jW_ (u.2.2.2.1) (u.2.2.1) ∧ jT_ (u.2.2.2.2.2.2.2.2.2.2.2.1) (u.2.2.2.2.2.2.2.1) ∧ jT_ (u.2.2.2.2.2.2.2.2.2.2.2.2.1) (u.2.2.2.2.2.2.2.2.1) ∧ jT_ (u.2.2.2.2.2.2.2.2.2.2.2.2.2.1) (u.2.2.2.2.2.2.2.2.2.1) ∧ jT_ (u.2.2.2.2.2.2.2.2.2.2.2.2.2.2) (u.2.2.2.2.2.2.2.2.2.2.1)) D (fun u => [(m0, .inr (8, [.ref mH, .int aM, .long aC, .int mM, .long mQ, .int oV, .int u.1, .int lI, .int sW, .int u.2.1, .int sT, .long aT, .int u.2.2.1, .int u.2.2.2.1, .ref mI, .ref mJ, .ref mS, .ref mD, .int iH, .int aE, .int mN, .long sZ, .ref mX, .int tS, .int tA, .int tW, .ref mA, .ref mB, .ref mW, .ref mL, .int lS])), (mH, .inl (cI, 512, .inl u.2.2.2.2.1)), (mI, .inl (cL, 1200, .inr (.inl u.2.2.2.2.2.2.1))), (mJ, .inl (cI, 4, .inl (k4i u.2.2.2.2.2.2.2.1 u.2.2.2.2.2.2.2.2.1 u.2.2.2.2.2.2.2.2.2.1 u.2.2.2.2.2.2.2.2.2.2.1))), (mS, .inl (cI, 4, .inl (k4i u.2.2.2.2.2.2.2.2.2.2.2.1 u.2.2.2.2.2.2.2.2.2.2.2.2.1 u.2.2.2.2.2.2.2.2.2.2.2.2.2.1 u.2.2.2.2.2.2.2.2.2.2.2.2.2.2))), (mD, .inl (cL, 256, .inr (.inl u.2.2.2.2.2.1)))]) A) args s 0 0 A) (F0 m 230 ls []) := by
                intro vv st hst H locs hP hD hS ls hl
                refine lv_lload hx hb dX8_copies_230 (lv_at hl 0 rfl) ?_
                refine lv_lconst (v := 0) hx hb dX8_copies_232 (by decide) ?_
                refine W.lcmp hx hb dX8_copies_233 ?_
                refine lv_if_lt (tgt := 246) hx hb dX8_copies_234 (by decide) (fun c_234_8 => ?_) (fun c_234_8 => ?_)
                · have t_234_8 := c_234_8
                  try simp only [kb_eq0, kb_ne0, lg_cmp_lt, lg_cmp_le, lg_cmp_gt, lg_cmp_ge, lg_cmp_eq] at t_234_8
                  try simp only [Int32.lt_iff_toInt_lt, Int32.le_iff_toInt_le, ← Int32.toInt_inj, Int64.lt_iff_toInt_lt, Int64.le_iff_toInt_le, ← Int64.toInt_inj, Int32.toInt_toInt64, Int32.reduceToInt, Int64.reduceToInt] at t_234_8
                  refine lv_aload_n hx hb dX8_copies_246 rfl (lv_at hl 4 rfl) ?_
                  refine lv_iconst (v := 0) hx hb dX8_copies_247 (by decide) ?_
                  refine va_put (D := D) (ci := 8) (v := .int 0) (ty := .int) (C := RX8) (T := TX8) (N := 31) hx hb hts iX8_copies_X8 tyX8 tyX8_ok nmX8 hown hK hP hD hS 0 rfl rfl 12 (by decide) (hts (.fieldLink RX8 43 "TapeCalculatorModel" "chosen" "I") (List.mem_of_getElem? (i := 1) rfl)) (fun _ h9 => h9) rfl (by decide +kernel) rfl rfl (Nat.le_of_ble_eq_true rfl) dX8_copies_248 (fun H locs hP hD hS => ?_)
                  have hP : va_P D vwCl [(m0, .inr (8, [.ref mH, .int aM, .long aC, .int mM, .long mQ, .int oV, .int pL, .int lI, .int sW, .int dP, .int sT, .long aT, .int 0, .int iW, .ref mI, .ref mJ, .ref mS, .ref mD, .int iH, .int aE, .int mN, .long sZ, .ref mX, .int tS, .int tA, .int tW, .ref mA, .ref mB, .ref mW, .ref mL, .int lS])), (mH, .inl (cI, 512, .inl fH)), (mI, .inl (cL, 1200, .inr (.inl fI))), (mJ, .inl (cI, 4, .inl (k4i j0 j1 j2 j3))), (mS, .inl (cI, 4, .inl (k4i s0 s1 st s3))), (mD, .inl (cL, 256, .inr (.inl fD)))] H := hP
                  have hD : va_D A [(m0, .inr (8, [.ref mH, .int aM, .long aC, .int mM, .long mQ, .int oV, .int pL, .int lI, .int sW, .int dP, .int sT, .long aT, .int 0, .int iW, .ref mI, .ref mJ, .ref mS, .ref mD, .int iH, .int aE, .int mN, .long sZ, .ref mX, .int tS, .int tA, .int tW, .ref mA, .ref mB, .ref mW, .ref mL, .int lS])), (mH, .inl (cI, 512, .inl fH)), (mI, .inl (cL, 1200, .inr (.inl fI))), (mJ, .inl (cI, 4, .inl (k4i j0 j1 j2 j3))), (mS, .inl (cI, 4, .inl (k4i s0 s1 st s3))), (mD, .inl (cL, 256, .inr (.inl fD)))] := hD
                  refine lv_aload_n hx hb dX8_copies_251 rfl (lv_at hl 4 rfl) ?_
                  refine lv_lload hx hb dX8_copies_252 (lv_at hl 0 rfl) ?_
                  refine lv_ldc2 (v := (-2)) hx hb hown (hts (.constantLong RX8 111 (-2)) (List.mem_of_getElem? (i := 9) rfl)) dX8_copies_254 ?_
                  refine W.lcmp hx hb dX8_copies_257 ?_
                  refine lv_if_ne (tgt := 265) hx hb dX8_copies_258 (by decide) (fun c_258_9 => ?_) (fun c_258_9 => ?_)
                  · have t_258_9 := c_258_9
                    try simp only [kb_eq0, kb_ne0, lg_cmp_lt, lg_cmp_le, lg_cmp_gt, lg_cmp_ge, lg_cmp_eq] at t_258_9
                    try simp only [Int32.lt_iff_toInt_lt, Int32.le_iff_toInt_le, ← Int32.toInt_inj, Int64.lt_iff_toInt_lt, Int64.le_iff_toInt_le, ← Int64.toInt_inj, Int32.toInt_toInt64, Int32.reduceToInt, Int64.reduceToInt] at t_258_9
                    refine lv_iconst (v := 1) hx hb dX8_copies_265 (by decide) ?_
                    refine kCallVd (wr := [(mH, .inl (cI, 512, .inl fH)), (mI, .inl (cL, 1200, .inr (.inl fI))), (mJ, .inl (cI, 4, .inl (k4i j0 j1 j2 j3))), (mS, .inl (cI, 4, .inl (k4i s0 s1 st s3))), (mD, .inl (cL, 256, .inr (.inl fD)))]) (va_runV (As := [.int 1]) (rest := []) ⟨hx, hb, hml, hown, hts⟩ (q_go l D cI cL cB cZ cT _ m0 mH mI mJ mS mD mX mA mB mW mL aM aC mM mQ oV pL lI sW dP sT aT 0 iW iH aE mN sZ tS tA tW lS 1) (cwV 1 hts gX8_copies_X8_go rfl rfl rfl (by decide +kernel) ⟨Nat.le_of_ble_eq_true rfl, Nat.le_of_ble_eq_true rfl⟩) (kPreV hG hP hD [0] rfl (by decide) 0 8 rfl rfl rfl) rfl rfl hl.1 rfl (lv_room (Nat.le_of_ble_eq_true rfl)) dX8_copies_266 ⟨Nat.le_of_ble_eq_true rfl, Nat.le_of_ble_eq_true rfl⟩) hA hP hD hS [0] [1, 2, 3, 4, 5] rfl rfl (by decide) (by decide) (fun _ u_r_11 H locs wr_11 hP hD hS => ?_)
                    have hP : va_P D vwCl [(mH, .inl (cI, 512, .inl fH)), (mI, .inl (cL, 1200, .inr (.inl fI))), (mJ, .inl (cI, 4, .inl (k4i j0 j1 j2 j3))), (mS, .inl (cI, 4, .inl (k4i s0 s1 st s3))), (mD, .inl (cL, 256, .inr (.inl fD))), (m0, .inr (8, [.ref mH, .int aM, .long aC, .int mM, .long mQ, .int oV, .int u_r_11, .int lI, .int sW, .int dP, .int sT, .long aT, .int 0, .int iW, .ref mI, .ref mJ, .ref mS, .ref mD, .int iH, .int aE, .int mN, .long sZ, .ref mX, .int tS, .int tA, .int tW, .ref mA, .ref mB, .ref mW, .ref mL, .int lS]))] H := hP
                    have hD : va_D A [(mH, .inl (cI, 512, .inl fH)), (mI, .inl (cL, 1200, .inr (.inl fI))), (mJ, .inl (cI, 4, .inl (k4i j0 j1 j2 j3))), (mS, .inl (cI, 4, .inl (k4i s0 s1 st s3))), (mD, .inl (cL, 256, .inr (.inl fD))), (m0, .inr (8, [.ref mH, .int aM, .long aC, .int mM, .long mQ, .int oV, .int u_r_11, .int lI, .int sW, .int dP, .int sT, .long aT, .int 0, .int iW, .ref mI, .ref mJ, .ref mS, .ref mD, .int iH, .int aE, .int mN, .long sZ, .ref mX, .int tS, .int tA, .int tW, .ref mA, .ref mB, .ref mW, .ref mL, .int lS]))] := hD
                    try dsimp only at wr_11
                    try simp only [Int32.reduceToInt, Int64.reduceToInt] at wr_11
                    refine lv_iconst (v := 0) hx hb dX8_copies_269 (by decide) ?_
                    refine kIret (u := (u_r_11, dP, 0, iW, fH, fD, fI, j0, j1, j2, j3, s0, s1, st, s3)) hx hb hr rfl hlocks hS dX8_copies_270 ?_ (hP.sub [5, 0, 1, 2, 3, 4] rfl) (hD.sub [5, 0, 1, 2, 3, 4] (by decide) rfl)
                    try dsimp only
                    repeat' (with_reducible apply And.intro)
                    all_goals first | with_reducible assumption | ((try simp only [jT_, jP_, jD_, jC_, jB_, jW_, Int32.reduceToInt, Int64.reduceToInt, true_or, or_true, true_and, and_true]) <;> omega)
                  · have t_258_9 := c_258_9
                    try simp only [kb_eq0, kb_ne0, lg_cmp_lt, lg_cmp_le, lg_cmp_gt, lg_cmp_ge, lg_cmp_eq] at t_258_9
                    try simp only [Int32.lt_iff_toInt_lt, Int32.le_iff_toInt_le, ← Int32.toInt_inj, Int64.lt_iff_toInt_lt, Int64.le_iff_toInt_le, ← Int64.toInt_inj, Int32.toInt_toInt64, Int32.reduceToInt, Int64.reduceToInt] at t_258_9
                    refine lv_iconst (v := 2) hx hb dX8_copies_261 (by decide) ?_
                    refine lv_goto (tgt := 266) hx hb dX8_copies_262 (by decide) ?_
                    refine kCallVd (wr := [(mH, .inl (cI, 512, .inl fH)), (mI, .inl (cL, 1200, .inr (.inl fI))), (mJ, .inl (cI, 4, .inl (k4i j0 j1 j2 j3))), (mS, .inl (cI, 4, .inl (k4i s0 s1 st s3))), (mD, .inl (cL, 256, .inr (.inl fD)))]) (va_runV (As := [.int 2]) (rest := []) ⟨hx, hb, hml, hown, hts⟩ (q_go l D cI cL cB cZ cT _ m0 mH mI mJ mS mD mX mA mB mW mL aM aC mM mQ oV pL lI sW dP sT aT 0 iW iH aE mN sZ tS tA tW lS 2) (cwV 1 hts gX8_copies_X8_go rfl rfl rfl (by decide +kernel) ⟨Nat.le_of_ble_eq_true rfl, Nat.le_of_ble_eq_true rfl⟩) (kPreV hG hP hD [0] rfl (by decide) 0 8 rfl rfl rfl) rfl rfl hl.1 rfl (lv_room (Nat.le_of_ble_eq_true rfl)) dX8_copies_266 ⟨Nat.le_of_ble_eq_true rfl, Nat.le_of_ble_eq_true rfl⟩) hA hP hD hS [0] [1, 2, 3, 4, 5] rfl rfl (by decide) (by decide) (fun _ u_r_12 H locs wr_12 hP hD hS => ?_)
                    have hP : va_P D vwCl [(mH, .inl (cI, 512, .inl fH)), (mI, .inl (cL, 1200, .inr (.inl fI))), (mJ, .inl (cI, 4, .inl (k4i j0 j1 j2 j3))), (mS, .inl (cI, 4, .inl (k4i s0 s1 st s3))), (mD, .inl (cL, 256, .inr (.inl fD))), (m0, .inr (8, [.ref mH, .int aM, .long aC, .int mM, .long mQ, .int oV, .int u_r_12, .int lI, .int sW, .int dP, .int sT, .long aT, .int 0, .int iW, .ref mI, .ref mJ, .ref mS, .ref mD, .int iH, .int aE, .int mN, .long sZ, .ref mX, .int tS, .int tA, .int tW, .ref mA, .ref mB, .ref mW, .ref mL, .int lS]))] H := hP
                    have hD : va_D A [(mH, .inl (cI, 512, .inl fH)), (mI, .inl (cL, 1200, .inr (.inl fI))), (mJ, .inl (cI, 4, .inl (k4i j0 j1 j2 j3))), (mS, .inl (cI, 4, .inl (k4i s0 s1 st s3))), (mD, .inl (cL, 256, .inr (.inl fD))), (m0, .inr (8, [.ref mH, .int aM, .long aC, .int mM, .long mQ, .int oV, .int u_r_12, .int lI, .int sW, .int dP, .int sT, .long aT, .int 0, .int iW, .ref mI, .ref mJ, .ref mS, .ref mD, .int iH, .int aE, .int mN, .long sZ, .ref mX, .int tS, .int tA, .int tW, .ref mA, .ref mB, .ref mW, .ref mL, .int lS]))] := hD
                    try dsimp only at wr_12
                    try simp only [Int32.reduceToInt, Int64.reduceToInt] at wr_12
                    refine lv_iconst (v := 0) hx hb dX8_copies_269 (by decide) ?_
                    refine kIret (u := (u_r_12, dP, 0, iW, fH, fD, fI, j0, j1, j2, j3, s0, s1, st, s3)) hx hb hr rfl hlocks hS dX8_copies_270 ?_ (hP.sub [5, 0, 1, 2, 3, 4] rfl) (hD.sub [5, 0, 1, 2, 3, 4] (by decide) rfl)
                    try dsimp only
                    repeat' (with_reducible apply And.intro)
                    all_goals first | with_reducible assumption | ((try simp only [jT_, jP_, jD_, jC_, jB_, jW_, Int32.reduceToInt, Int64.reduceToInt, true_or, or_true, true_and, and_true]) <;> omega)
                · have t_234_8 := c_234_8
                  try simp only [kb_eq0, kb_ne0, lg_cmp_lt, lg_cmp_le, lg_cmp_gt, lg_cmp_ge, lg_cmp_eq] at t_234_8
                  try simp only [Int32.lt_iff_toInt_lt, Int32.le_iff_toInt_le, ← Int32.toInt_inj, Int64.lt_iff_toInt_lt, Int64.le_iff_toInt_le, ← Int64.toInt_inj, Int32.toInt_toInt64, Int32.reduceToInt, Int64.reduceToInt] at t_234_8
                  refine lv_aload_n hx hb dX8_copies_237 rfl (lv_at hl 4 rfl) ?_
                  refine lv_lload hx hb dX8_copies_238 (lv_at hl 0 rfl) ?_
                  refine kCallVd (wr := [(mI, .inl (cL, 1200, .inr (.inl fI))), (mJ, .inl (cI, 4, .inl (k4i j0 j1 j2 j3))), (mS, .inl (cI, 4, .inl (k4i s0 s1 st s3))), (mD, .inl (cL, 256, .inr (.inl fD)))]) (va_runV (As := [.long vv]) (rest := []) ⟨hx, hb, hml, hown, hts⟩ (q_store l D cI cL cB cZ cT _ m0 mH mI mJ mS mD mX mA mB mW mL aM aC mM mQ oV pL lI sW dP sT aT 3 iW iH aE mN sZ tS tA tW lS fH vv (by omega)) (cwV 1 hts gX8_copies_X8_store rfl rfl rfl (by decide +kernel) ⟨Nat.le_of_ble_eq_true rfl, Nat.le_of_ble_eq_true rfl⟩) (kPreV hG hP hD [0, 1] rfl (by decide) 0 8 rfl rfl rfl) rfl rfl hl.1 rfl (lv_room (Nat.le_of_ble_eq_true rfl)) dX8_copies_240 ⟨Nat.le_of_ble_eq_true rfl, Nat.le_of_ble_eq_true rfl⟩) hA hP hD hS [0, 1] [2, 3, 4, 5] rfl rfl (by decide) (by decide) (fun _ u_r_13 H locs wr_13 hP hD hS => ?_)
                  have hP : va_P D vwCl [(mI, .inl (cL, 1200, .inr (.inl fI))), (mJ, .inl (cI, 4, .inl (k4i j0 j1 j2 j3))), (mS, .inl (cI, 4, .inl (k4i s0 s1 st s3))), (mD, .inl (cL, 256, .inr (.inl fD))), (m0, .inr (8, [.ref mH, .int aM, .long aC, .int mM, .long mQ, .int oV, .int pL, .int lI, .int sW, .int dP, .int sT, .long aT, .int 3, .int iW, .ref mI, .ref mJ, .ref mS, .ref mD, .int iH, .int aE, .int mN, .long sZ, .ref mX, .int tS, .int tA, .int tW, .ref mA, .ref mB, .ref mW, .ref mL, .int lS])), (mH, .inl (cI, 512, .inl u_r_13))] H := hP
                  have hD : va_D A [(mI, .inl (cL, 1200, .inr (.inl fI))), (mJ, .inl (cI, 4, .inl (k4i j0 j1 j2 j3))), (mS, .inl (cI, 4, .inl (k4i s0 s1 st s3))), (mD, .inl (cL, 256, .inr (.inl fD))), (m0, .inr (8, [.ref mH, .int aM, .long aC, .int mM, .long mQ, .int oV, .int pL, .int lI, .int sW, .int dP, .int sT, .long aT, .int 3, .int iW, .ref mI, .ref mJ, .ref mS, .ref mD, .int iH, .int aE, .int mN, .long sZ, .ref mX, .int tS, .int tA, .int tW, .ref mA, .ref mB, .ref mW, .ref mL, .int lS])), (mH, .inl (cI, 512, .inl u_r_13))] := hD
                  try dsimp only at wr_13
                  try simp only [Int32.reduceToInt, Int64.reduceToInt] at wr_13
                  refine lv_goto (tgt := 269) hx hb dX8_copies_243 (by decide) ?_
                  refine lv_iconst (v := 0) hx hb dX8_copies_269 (by decide) ?_
                  refine kIret (u := (pL, dP, 3, iW, u_r_13, fD, fI, j0, j1, j2, j3, s0, s1, st, s3)) hx hb hr rfl hlocks hS dX8_copies_270 ?_ (hP.sub [4, 5, 0, 1, 2, 3] rfl) (hD.sub [4, 5, 0, 1, 2, 3] (by decide) rfl)
                  try dsimp only
                  repeat' (with_reducible apply And.intro)
                  all_goals first | with_reducible assumption | ((try simp only [jT_, jP_, jD_, jC_, jB_, jW_, Int32.reduceToInt, Int64.reduceToInt, true_or, or_true, true_and, and_true]) <;> omega)
              refine lv_iload_n hx hb dX8_copies_165 rfl (lv_at hl 0 rfl) ?_
              refine lv_i2l hx hb dX8_copies_166 rfl ?_
              refine lv_lconst (v := 0) hx hb dX8_copies_167 (by decide) ?_
              refine lv_aload_n hx hb dX8_copies_168 rfl (lv_at hl 3 rfl) ?_
              refine va_get (D := D) (ci := 8) (v := .ref mJ) (C := RX8) (T := TX8) (N := 31) hx hb hts iX8_copies_X8 hown hK hP 0 rfl rfl 15 (by decide) (hts (.fieldLink RX8 17 "TapeCalculatorModel" "items" "[I") (List.mem_of_getElem? (i := 6) rfl)) (fun _ h9 => h9) rfl dX8_copies_169 ?_
              refine lv_iload_n hx hb dX8_copies_172 rfl (lv_at hl 1 rfl) ?_
              refine va_iald hx hb hK hP 3 0 rfl rfl (vp_in_iff.mpr (by decide)) dX8_copies_173 ?_
              refine lv_topi (fun x_14 ex_14 => ?_)
              obtain rfl : j2 = x_14 := ex_14.symm
              refine lv_iconst (v := 1) hx hb dX8_copies_174 (by decide) ?_
              refine lv_isub hx hb dX8_copies_175 ?_
              refine lv_topi (fun x_15 ex_15 => ?_)
              have hs0 := k_sub (a := j2) (b := 1) (by omega) (by decide)
              simp only [Int32.reduceToInt, show (-1 : Int32).toInt = -1 from rfl] at hs0
              rw [← ex_15] at hs0
              refine lv_i2l hx hb dX8_copies_176 rfl ?_
              refine kCallI (wr := [(m0, .inr (8, [.ref mH, .int aM, .long aC, .int mM, .long mQ, .int oV, .int pL, .int lI, .int sW, .int dP, .int sT, .long aT, .int 3, .int iW, .ref mI, .ref mJ, .ref mS, .ref mD, .int iH, .int aE, .int mN, .long sZ, .ref mX, .int tS, .int tA, .int tW, .ref mA, .ref mB, .ref mW, .ref mL, .int lS])), (mH, .inl (cI, 512, .inl fH)), (mI, .inl (cL, 1200, .inr (.inl fI))), (mJ, .inl (cI, 4, .inl (k4i j0 j1 j2 j3))), (mS, .inl (cI, 4, .inl (k4i s0 s1 s2 s3))), (mD, .inl (cL, 256, .inr (.inl fD)))]) (va_runS (As := [.long s2.toInt64, .long 0, .long x_15.toInt64]) (rest := []) ⟨hx, hb, hml, hown, hts⟩ (q_in l D cI cL cB cZ cT _ (s2.toInt64) 0 (x_15.toInt64)) (va_cwS 3 hts gX8_copies_X8_in rfl rfl rfl (by decide +kernel) ⟨Nat.le_of_ble_eq_true rfl, Nat.le_of_ble_eq_true rfl⟩) (kPreS hG hP hD [] rfl (by decide)) rfl rfl hl.1 rfl (lv_room (Nat.le_of_ble_eq_true rfl)) dX8_copies_177 ⟨Nat.le_of_ble_eq_true rfl, Nat.le_of_ble_eq_true rfl⟩) hA hP hD hS [] [0, 1, 2, 3, 4, 5] rfl rfl (by decide) (by decide) (fun r_16 u_r_16 H locs wr_16 hP hD hS => ?_)
              have hP : va_P D vwCl [(m0, .inr (8, [.ref mH, .int aM, .long aC, .int mM, .long mQ, .int oV, .int pL, .int lI, .int sW, .int dP, .int sT, .long aT, .int 3, .int iW, .ref mI, .ref mJ, .ref mS, .ref mD, .int iH, .int aE, .int mN, .long sZ, .ref mX, .int tS, .int tA, .int tW, .ref mA, .ref mB, .ref mW, .ref mL, .int lS])), (mH, .inl (cI, 512, .inl fH)), (mI, .inl (cL, 1200, .inr (.inl fI))), (mJ, .inl (cI, 4, .inl (k4i j0 j1 j2 j3))), (mS, .inl (cI, 4, .inl (k4i s0 s1 s2 s3))), (mD, .inl (cL, 256, .inr (.inl fD)))] H := hP
              have hD : va_D A [(m0, .inr (8, [.ref mH, .int aM, .long aC, .int mM, .long mQ, .int oV, .int pL, .int lI, .int sW, .int dP, .int sT, .long aT, .int 3, .int iW, .ref mI, .ref mJ, .ref mS, .ref mD, .int iH, .int aE, .int mN, .long sZ, .ref mX, .int tS, .int tA, .int tW, .ref mA, .ref mB, .ref mW, .ref mL, .int lS])), (mH, .inl (cI, 512, .inl fH)), (mI, .inl (cL, 1200, .inr (.inl fI))), (mJ, .inl (cI, 4, .inl (k4i j0 j1 j2 j3))), (mS, .inl (cI, 4, .inl (k4i s0 s1 s2 s3))), (mD, .inl (cL, 256, .inr (.inl fD)))] := hD
              try dsimp only at wr_16
              subst wr_16
              refine lv_if_eq (tgt := 198) hx hb dX8_copies_180 (by decide) (fun c_180_16 => ?_) (fun c_180_16 => ?_)
              · have t_180_16 := c_180_16
                try simp only [kb_eq0, kb_ne0, lg_cmp_lt, lg_cmp_le, lg_cmp_gt, lg_cmp_ge, lg_cmp_eq] at t_180_16
                try simp only [Int32.lt_iff_toInt_lt, Int32.le_iff_toInt_le, ← Int32.toInt_inj, Int64.lt_iff_toInt_lt, Int64.le_iff_toInt_le, ← Int64.toInt_inj, Int32.toInt_toInt64, Int32.reduceToInt, Int64.reduceToInt] at t_180_16
                refine lv_ldc2 (v := (-9)) hx hb hown (hts (.constantLong RX8 107 (-9)) (List.mem_of_getElem? (i := 8) rfl)) dX8_copies_198 ?_
                refine lv_lstore (lv' := [(4, .long (-9)), (3, .int s2), (2, .int 2), (1, .int 0), (0, .ref m0)]) hx hb dX8_copies_201 hl (by decide) rfl (fun ls hl => ?_)
                refine lv_lload hx hb dX8_copies_203 (lv_at hl 0 rfl) ?_
                refine lv_ldc2 (v := (-9)) hx hb hown (hts (.constantLong RX8 107 (-9)) (List.mem_of_getElem? (i := 8) rfl)) dX8_copies_205 ?_
                refine W.lcmp hx hb dX8_copies_208 ?_
                refine lv_topi (fun x_18 ex_18 => ?_)
                obtain rfl : x_18 = 0 := ex_18.trans (by decide)
                refine lv_if_eq (tgt := 230) hx hb dX8_copies_209 (by decide) (fun c_209_18 => ?_) (fun c_209_18 => ?_)
                · have t_209_18 := c_209_18
                  try simp only [kb_eq0, kb_ne0, lg_cmp_lt, lg_cmp_le, lg_cmp_gt, lg_cmp_ge, lg_cmp_eq] at t_209_18
                  try simp only [Int32.lt_iff_toInt_lt, Int32.le_iff_toInt_le, ← Int32.toInt_inj, Int64.lt_iff_toInt_lt, Int64.le_iff_toInt_le, ← Int64.toInt_inj, Int32.toInt_toInt64, Int32.reduceToInt, Int64.reduceToInt] at t_209_18
                  exact J230 (-9) s2 (by first | with_reducible assumption | ((try simp only [jT_, jP_, jD_, jC_, jB_, jW_, Int32.reduceToInt, Int64.reduceToInt, true_or, or_true, true_and, and_true]) <;> omega)) _ _ (hP.sub [0, 1, 2, 3, 4, 5] rfl) (hD.sub [0, 1, 2, 3, 4, 5] (by decide) rfl) hS ls (lv_sub hl [0, 1, 2, 3, 4] rfl)
                · exact absurd (by decide) c_209_18
              · have t_180_16 := c_180_16
                try simp only [kb_eq0, kb_ne0, lg_cmp_lt, lg_cmp_le, lg_cmp_gt, lg_cmp_ge, lg_cmp_eq] at t_180_16
                try simp only [Int32.lt_iff_toInt_lt, Int32.le_iff_toInt_le, ← Int32.toInt_inj, Int64.lt_iff_toInt_lt, Int64.le_iff_toInt_le, ← Int64.toInt_inj, Int32.toInt_toInt64, Int32.reduceToInt, Int64.reduceToInt] at t_180_16
                refine lv_aload_n hx hb dX8_copies_183 rfl (lv_at hl 3 rfl) ?_
                refine va_get (D := D) (ci := 8) (v := .ref mI) (C := RX8) (T := TX8) (N := 31) hx hb hts iX8_copies_X8 hown hK hP 0 rfl rfl 14 (by decide) (hts (.fieldLink RX8 13 "TapeCalculatorModel" "item" "[J") (List.mem_of_getElem? (i := 7) rfl)) (fun _ h9 => h9) rfl dX8_copies_184 ?_
                refine lv_sipush (v := 300) hx hb dX8_copies_187 (by decide) ?_
                refine lv_iload_n hx hb dX8_copies_190 rfl (lv_at hl 1 rfl) ?_
                refine lv_imul hx hb dX8_copies_191 ?_
                refine lv_topi (fun x_20 ex_20 => ?_)
                obtain rfl : x_20 = 600 := ex_20.trans (by decide)
                refine lv_iload_n hx hb dX8_copies_192 rfl (lv_at hl 0 rfl) ?_
                refine lv_iadd hx hb dX8_copies_193 ?_
                refine va_lald hx hb hK hP 2 1 rfl rfl (vp_in_iff.mpr (by have hx9 := k_addg (a := 600) (b := s2) (by decide) (by omega); simp only [Int32.reduceToInt] at hx9; omega)) dX8_copies_194 ?_
                refine lv_goto (tgt := 201) hx hb dX8_copies_195 (by decide) ?_
                refine lv_topl (fun x_21 ex_21 => ?_)
                refine lv_lstore (lv' := [(4, .long x_21), (3, .int s2), (2, .int 2), (1, .int 0), (0, .ref m0)]) hx hb dX8_copies_201 hl (by decide) rfl (fun ls hl => ?_)
                refine lv_lload hx hb dX8_copies_203 (lv_at hl 0 rfl) ?_
                refine lv_ldc2 (v := (-9)) hx hb hown (hts (.constantLong RX8 107 (-9)) (List.mem_of_getElem? (i := 8) rfl)) dX8_copies_205 ?_
                refine W.lcmp hx hb dX8_copies_208 ?_
                refine lv_if_eq (tgt := 230) hx hb dX8_copies_209 (by decide) (fun c_209_21 => ?_) (fun c_209_21 => ?_)
                · have t_209_21 := c_209_21
                  try simp only [kb_eq0, kb_ne0, lg_cmp_lt, lg_cmp_le, lg_cmp_gt, lg_cmp_ge, lg_cmp_eq] at t_209_21
                  try simp only [Int32.lt_iff_toInt_lt, Int32.le_iff_toInt_le, ← Int32.toInt_inj, Int64.lt_iff_toInt_lt, Int64.le_iff_toInt_le, ← Int64.toInt_inj, Int32.toInt_toInt64, Int32.reduceToInt, Int64.reduceToInt] at t_209_21
                  exact J230 x_21 s2 (by first | with_reducible assumption | ((try simp only [jT_, jP_, jD_, jC_, jB_, jW_, Int32.reduceToInt, Int64.reduceToInt, true_or, or_true, true_and, and_true]) <;> omega)) _ _ (hP.sub [0, 1, 2, 3, 4, 5] rfl) (hD.sub [0, 1, 2, 3, 4, 5] (by decide) rfl) hS ls (lv_sub hl [0, 1, 2, 3, 4] rfl)
                · have t_209_21 := c_209_21
                  try simp only [kb_eq0, kb_ne0, lg_cmp_lt, lg_cmp_le, lg_cmp_gt, lg_cmp_ge, lg_cmp_eq] at t_209_21
                  try simp only [Int32.lt_iff_toInt_lt, Int32.le_iff_toInt_le, ← Int32.toInt_inj, Int64.lt_iff_toInt_lt, Int64.le_iff_toInt_le, ← Int64.toInt_inj, Int32.toInt_toInt64, Int32.reduceToInt, Int64.reduceToInt] at t_209_21
                  refine lv_aload_n hx hb dX8_copies_212 rfl (lv_at hl 4 rfl) ?_
                  refine va_get (D := D) (ci := 8) (v := .ref mS) (C := RX8) (T := TX8) (N := 31) hx hb hts iX8_copies_X8 hown hK hP 0 rfl rfl 16 (by decide) (hts (.fieldLink RX8 20 "TapeCalculatorModel" "stands" "[I") (List.mem_of_getElem? (i := 5) rfl)) (fun _ h9 => h9) rfl dX8_copies_213 ?_
                  refine lv_iload_n hx hb dX8_copies_216 rfl (lv_at hl 2 rfl) ?_
                  refine lv_dup2_11 hx hb dX8_copies_217 rfl rfl ?_
                  refine va_iald hx hb hK hP 4 0 rfl rfl (vp_in_iff.mpr (by decide)) dX8_copies_218 ?_
                  refine lv_topi (fun x_23 ex_23 => ?_)
                  obtain rfl : s2 = x_23 := ex_23.symm
                  refine lv_iload_n hx hb dX8_copies_219 rfl (lv_at hl 3 rfl) ?_
                  refine lv_if_eq (tgt := 227) hx hb dX8_copies_220 (by decide) (fun c_220_23 => ?_) (fun c_220_23 => ?_)
                  · have t_220_23 := c_220_23
                    try simp only [kb_eq0, kb_ne0, lg_cmp_lt, lg_cmp_le, lg_cmp_gt, lg_cmp_ge, lg_cmp_eq] at t_220_23
                    try simp only [Int32.lt_iff_toInt_lt, Int32.le_iff_toInt_le, ← Int32.toInt_inj, Int64.lt_iff_toInt_lt, Int64.le_iff_toInt_le, ← Int64.toInt_inj, Int32.toInt_toInt64, Int32.reduceToInt, Int64.reduceToInt] at t_220_23
                    refine lv_iconst (v := 1) hx hb dX8_copies_227 (by decide) ?_
                    refine lv_iadd hx hb dX8_copies_228 ?_
                    refine lv_topi (fun x_25 ex_25 => ?_)
                    have hs2 := k_addg (a := s2) (b := 1) (by omega) (by decide)
                    simp only [Int32.reduceToInt, show (-1 : Int32).toInt = -1 from rfl] at hs2
                    rw [← ex_25] at hs2
                    refine va_iast hx hb hK hP hD hS 4 0 rfl rfl (vp_in_iff.mpr (by decide)) dX8_copies_229 (fun H locs hP hD hS => ?_)
                    rw [k4i_2] at hP hD
                    have hP : va_P D vwCl [(m0, .inr (8, [.ref mH, .int aM, .long aC, .int mM, .long mQ, .int oV, .int pL, .int lI, .int sW, .int dP, .int sT, .long aT, .int 3, .int iW, .ref mI, .ref mJ, .ref mS, .ref mD, .int iH, .int aE, .int mN, .long sZ, .ref mX, .int tS, .int tA, .int tW, .ref mA, .ref mB, .ref mW, .ref mL, .int lS])), (mH, .inl (cI, 512, .inl fH)), (mI, .inl (cL, 1200, .inr (.inl fI))), (mJ, .inl (cI, 4, .inl (k4i j0 j1 j2 j3))), (mS, .inl (cI, 4, .inl (k4i s0 s1 x_25 s3))), (mD, .inl (cL, 256, .inr (.inl fD)))] H := hP
                    have hD : va_D A [(m0, .inr (8, [.ref mH, .int aM, .long aC, .int mM, .long mQ, .int oV, .int pL, .int lI, .int sW, .int dP, .int sT, .long aT, .int 3, .int iW, .ref mI, .ref mJ, .ref mS, .ref mD, .int iH, .int aE, .int mN, .long sZ, .ref mX, .int tS, .int tA, .int tW, .ref mA, .ref mB, .ref mW, .ref mL, .int lS])), (mH, .inl (cI, 512, .inl fH)), (mI, .inl (cL, 1200, .inr (.inl fI))), (mJ, .inl (cI, 4, .inl (k4i j0 j1 j2 j3))), (mS, .inl (cI, 4, .inl (k4i s0 s1 x_25 s3))), (mD, .inl (cL, 256, .inr (.inl fD)))] := hD
                    exact J230 x_21 x_25 (by first | with_reducible assumption | ((try simp only [jT_, jP_, jD_, jC_, jB_, jW_, Int32.reduceToInt, Int64.reduceToInt, true_or, or_true, true_and, and_true]) <;> omega)) _ _ (hP.sub [0, 1, 2, 3, 4, 5] rfl) (hD.sub [0, 1, 2, 3, 4, 5] (by decide) rfl) hS ls (lv_sub hl [0, 1, 2, 3, 4] rfl)
                  · exact absurd (by decide) c_220_23
            · exact absurd (by decide) c_144_6
          · exact absurd (by decide) c_124_4
        · exact absurd (by decide) c_114_3
      · exact absurd (by decide) c_79_2
    · exact absurd (by decide) c_16_1
  · exact absurd c_4_0 (by decide)
set_option maxRecDepth 100000 in
set_option maxHeartbeats 4000000 in
theorem q_copies_4 (l : Launch) (D : va_G) (cI cL cB cZ cT : ClassId) (sz : Nat) (m0 mH mI mJ mS mD mX mA mB mW mL : Nat) (aM : Int32) (aC : Int64) (mM : Int32) (mQ : Int64) (oV pL lI sW dP sT : Int32) (aT : Int64) (iW iH aE mN : Int32) (sZ : Int64) (tS tA tW lS : Int32) (fH : Nat → Int32) (fI : Nat → Int64) (j0 j1 j2 j3 : Int32) (s0 s1 s2 s3 : Int32) (fD : Nat → Int64) (hpl : jP_ pL) (hdp : jD_ dP) (hch : jC_ 4) (hiw : jW_ iW 4) (ht0 : jT_ s0 j0) (ht1 : jT_ s1 j1) (ht2 : jT_ s2 j2) (ht3 : jT_ s3 j3) (had : 0 ≤ aE.toInt ∧ aE.toInt ≤ 511 ∧ (iH.toInt = 0 ∨ aE.toInt ≤ 510)) : kM (S := (Int32 × Int32 × Int32 × Int32 × (Nat → Int32) × (Nat → Int64) × (Nat → Int64) × Int32 × Int32 × Int32 × Int32 × Int32 × Int32 × Int32 × Int32)) l yX8_copies wsX8_copies ({ frames := 2, cells := 0, slots := 0, locals := 45 }) D (kT cI cL cB cZ cT) [.ref m0] [(m0, .inr (8, [.ref mH, .int aM, .long aC, .int mM, .long mQ, .int oV, .int pL, .int lI, .int sW, .int dP, .int sT, .long aT, .int 4, .int iW, .ref mI, .ref mJ, .ref mS, .ref mD, .int iH, .int aE, .int mN, .long sZ, .ref mX, .int tS, .int tA, .int tW, .ref mA, .ref mB, .ref mW, .ref mL, .int lS])), (mH, .inl (cI, 512, .inl fH)), (mI, .inl (cL, 1200, .inr (.inl fI))), (mJ, .inl (cI, 4, .inl (k4i j0 j1 j2 j3))), (mS, .inl (cI, 4, .inl (k4i s0 s1 s2 s3))), (mD, .inl (cL, 256, .inr (.inl fD)))] sz eI (fun r u => (0 ≤ r.toInt ∧ r.toInt ≤ 6) ∧ jP_ (u.1) ∧ jD_ (u.2.1) ∧ jC_ (u.2.2.1) ∧ jW_ (u.2.2.2.1) (u.2.2.1) ∧ jT_ (u.2.2.2.2.2.2.2.2.2.2.2.1) (u.2.2.2.2.2.2.2.1) ∧ jT_ (u.2.2.2.2.2.2.2.2.2.2.2.2.1) (u.2.2.2.2.2.2.2.2.1) ∧ jT_ (u.2.2.2.2.2.2.2.2.2.2.2.2.2.1) (u.2.2.2.2.2.2.2.2.2.1) ∧ jT_ (u.2.2.2.2.2.2.2.2.2.2.2.2.2.2) (u.2.2.2.2.2.2.2.2.2.2.1)) (fun u => [(m0, .inr (8, [.ref mH, .int aM, .long aC, .int mM, .long mQ, .int oV, .int u.1, .int lI, .int sW, .int u.2.1, .int sT, .long aT, .int u.2.2.1, .int u.2.2.2.1, .ref mI, .ref mJ, .ref mS, .ref mD, .int iH, .int aE, .int mN, .long sZ, .ref mX, .int tS, .int tA, .int tW, .ref mA, .ref mB, .ref mW, .ref mL, .int lS])), (mH, .inl (cI, 512, .inl u.2.2.2.2.1)), (mI, .inl (cL, 1200, .inr (.inl u.2.2.2.2.2.2.1))), (mJ, .inl (cI, 4, .inl (k4i u.2.2.2.2.2.2.2.1 u.2.2.2.2.2.2.2.2.1 u.2.2.2.2.2.2.2.2.2.1 u.2.2.2.2.2.2.2.2.2.2.1))), (mS, .inl (cI, 4, .inl (k4i u.2.2.2.2.2.2.2.2.2.2.2.1 u.2.2.2.2.2.2.2.2.2.2.2.2.1 u.2.2.2.2.2.2.2.2.2.2.2.2.2.1 u.2.2.2.2.2.2.2.2.2.2.2.2.2.2))), (mD, .inl (cL, 256, .inr (.inl u.2.2.2.2.2.1)))]) 0 0 := by
  refine kStart (cc := cX8_copies) (maxL := 6) (ret := (some .int)) (own := RX8) (by decide) rfl rfl (Nat.le_of_ble_eq_true rfl) ?_
  intro p e s m args below meth c A ls hx hb hr hml hown hts hlocks hnm hsz hA hG hP hD hS hl
  have hK := hG.1
  have hl : lv_has ls 6 [(0, .ref m0)] := hl
  have hiw1 : iW.toInt = 0 := by simp only [jW_, Int32.reduceToInt] at hiw; omega
  have hu3 : 0 ≤ s3.toInt ∧ s3.toInt ≤ j3.toInt ∧ j3.toInt ≤ 300 := ht3
  refine lv_aload_n hx hb dX8_copies_0 rfl (lv_at hl 0 rfl) ?_
  refine va_get (D := D) (ci := 8) (v := .int 4) (C := RX8) (T := TX8) (N := 31) hx hb hts iX8_copies_X8 hown hK hP 0 rfl rfl 12 (by decide) (hts (.fieldLink RX8 43 "TapeCalculatorModel" "chosen" "I") (List.mem_of_getElem? (i := 1) rfl)) (fun _ h9 => h9) rfl dX8_copies_1 ?_
  refine lv_if_ne (tgt := 10) hx hb dX8_copies_4 (by decide) (fun c_4_0 => ?_) (fun c_4_0 => ?_)
  · have t_4_0 := c_4_0
    try simp only [kb_eq0, kb_ne0, lg_cmp_lt, lg_cmp_le, lg_cmp_gt, lg_cmp_ge, lg_cmp_eq] at t_4_0
    try simp only [Int32.lt_iff_toInt_lt, Int32.le_iff_toInt_le, ← Int32.toInt_inj, Int64.lt_iff_toInt_lt, Int64.le_iff_toInt_le, ← Int64.toInt_inj, Int32.toInt_toInt64, Int32.reduceToInt, Int64.reduceToInt] at t_4_0
    refine lv_aload_n hx hb dX8_copies_10 rfl (lv_at hl 0 rfl) ?_
    refine va_get (D := D) (ci := 8) (v := .int 4) (C := RX8) (T := TX8) (N := 31) hx hb hts iX8_copies_X8 hown hK hP 0 rfl rfl 12 (by decide) (hts (.fieldLink RX8 43 "TapeCalculatorModel" "chosen" "I") (List.mem_of_getElem? (i := 1) rfl)) (fun _ h9 => h9) rfl dX8_copies_11 ?_
    refine lv_bipush (v := 12) hx hb dX8_copies_14 (by decide) ?_
    refine lv_icmp_le (tgt := 73) hx hb dX8_copies_16 (by decide) (fun c_16_1 => ?_) (fun c_16_1 => ?_)
    · have t_16_1 := c_16_1
      try simp only [kb_eq0, kb_ne0, lg_cmp_lt, lg_cmp_le, lg_cmp_gt, lg_cmp_ge, lg_cmp_eq] at t_16_1
      try simp only [Int32.lt_iff_toInt_lt, Int32.le_iff_toInt_le, ← Int32.toInt_inj, Int64.lt_iff_toInt_lt, Int64.le_iff_toInt_le, ← Int64.toInt_inj, Int32.toInt_toInt64, Int32.reduceToInt, Int64.reduceToInt] at t_16_1
      refine lv_aload_n hx hb dX8_copies_73 rfl (lv_at hl 0 rfl) ?_
      refine va_get (D := D) (ci := 8) (v := .int 4) (C := RX8) (T := TX8) (N := 31) hx hb hts iX8_copies_X8 hown hK hP 0 rfl rfl 12 (by decide) (hts (.fieldLink RX8 43 "TapeCalculatorModel" "chosen" "I") (List.mem_of_getElem? (i := 1) rfl)) (fun _ h9 => h9) rfl dX8_copies_74 ?_
      refine lv_bipush (v := 8) hx hb dX8_copies_77 (by decide) ?_
      refine lv_icmp_le (tgt := 109) hx hb dX8_copies_79 (by decide) (fun c_79_2 => ?_) (fun c_79_2 => ?_)
      · have t_79_2 := c_79_2
        try simp only [kb_eq0, kb_ne0, lg_cmp_lt, lg_cmp_le, lg_cmp_gt, lg_cmp_ge, lg_cmp_eq] at t_79_2
        try simp only [Int32.lt_iff_toInt_lt, Int32.le_iff_toInt_le, ← Int32.toInt_inj, Int64.lt_iff_toInt_lt, Int64.le_iff_toInt_le, ← Int64.toInt_inj, Int32.toInt_toInt64, Int32.reduceToInt, Int64.reduceToInt] at t_79_2
        refine lv_aload_n hx hb dX8_copies_109 rfl (lv_at hl 0 rfl) ?_
        refine va_get (D := D) (ci := 8) (v := .int 4) (C := RX8) (T := TX8) (N := 31) hx hb hts iX8_copies_X8 hown hK hP 0 rfl rfl 12 (by decide) (hts (.fieldLink RX8 43 "TapeCalculatorModel" "chosen" "I") (List.mem_of_getElem? (i := 1) rfl)) (fun _ h9 => h9) rfl dX8_copies_110 ?_
        refine lv_iconst (v := 4) hx hb dX8_copies_113 (by decide) ?_
        refine lv_icmp_le (tgt := 121) hx hb dX8_copies_114 (by decide) (fun c_114_3 => ?_) (fun c_114_3 => ?_)
        · have t_114_3 := c_114_3
          try simp only [kb_eq0, kb_ne0, lg_cmp_lt, lg_cmp_le, lg_cmp_gt, lg_cmp_ge, lg_cmp_eq] at t_114_3
          try simp only [Int32.lt_iff_toInt_lt, Int32.le_iff_toInt_le, ← Int32.toInt_inj, Int64.lt_iff_toInt_lt, Int64.le_iff_toInt_le, ← Int64.toInt_inj, Int32.toInt_toInt64, Int32.reduceToInt, Int64.reduceToInt] at t_114_3
          refine lv_iconst (v := 0) hx hb dX8_copies_121 (by decide) ?_
          refine lv_istore_n (lv' := [(1, .int 0), (0, .ref m0)]) hx hb dX8_copies_122 rfl hl (by decide) rfl (fun ls hl => ?_)
          refine lv_iload_n hx hb dX8_copies_123 rfl (lv_at hl 0 rfl) ?_
          refine lv_if_eq (tgt := 136) hx hb dX8_copies_124 (by decide) (fun c_124_4 => ?_) (fun c_124_4 => ?_)
          · have t_124_4 := c_124_4
            try simp only [kb_eq0, kb_ne0, lg_cmp_lt, lg_cmp_le, lg_cmp_gt, lg_cmp_ge, lg_cmp_eq] at t_124_4
            try simp only [Int32.lt_iff_toInt_lt, Int32.le_iff_toInt_le, ← Int32.toInt_inj, Int64.lt_iff_toInt_lt, Int64.le_iff_toInt_le, ← Int64.toInt_inj, Int32.toInt_toInt64, Int32.reduceToInt, Int64.reduceToInt] at t_124_4
            refine lv_aload_n hx hb dX8_copies_136 rfl (lv_at hl 1 rfl) ?_
            refine va_get (D := D) (ci := 8) (v := .int 4) (C := RX8) (T := TX8) (N := 31) hx hb hts iX8_copies_X8 hown hK hP 0 rfl rfl 12 (by decide) (hts (.fieldLink RX8 43 "TapeCalculatorModel" "chosen" "I") (List.mem_of_getElem? (i := 1) rfl)) (fun _ h9 => h9) rfl dX8_copies_137 ?_
            refine lv_iconst (v := 1) hx hb dX8_copies_140 (by decide) ?_
            refine lv_isub hx hb dX8_copies_141 ?_
            refine lv_topi (fun x_6 ex_6 => ?_)
            obtain rfl : x_6 = 3 := ex_6.trans (by decide)
            refine lv_istore_n (lv' := [(2, .int 3), (1, .int 0), (0, .ref m0)]) hx hb dX8_copies_142 rfl hl (by decide) rfl (fun ls hl => ?_)
            refine lv_iload_n hx hb dX8_copies_143 rfl (lv_at hl 1 rfl) ?_
            refine lv_if_eq (tgt := 158) hx hb dX8_copies_144 (by decide) (fun c_144_6 => ?_) (fun c_144_6 => ?_)
            · have t_144_6 := c_144_6
              try simp only [kb_eq0, kb_ne0, lg_cmp_lt, lg_cmp_le, lg_cmp_gt, lg_cmp_ge, lg_cmp_eq] at t_144_6
              try simp only [Int32.lt_iff_toInt_lt, Int32.le_iff_toInt_le, ← Int32.toInt_inj, Int64.lt_iff_toInt_lt, Int64.le_iff_toInt_le, ← Int64.toInt_inj, Int32.toInt_toInt64, Int32.reduceToInt, Int64.reduceToInt] at t_144_6
              refine lv_aload_n hx hb dX8_copies_158 rfl (lv_at hl 2 rfl) ?_
              refine va_get (D := D) (ci := 8) (v := .ref mS) (C := RX8) (T := TX8) (N := 31) hx hb hts iX8_copies_X8 hown hK hP 0 rfl rfl 16 (by decide) (hts (.fieldLink RX8 20 "TapeCalculatorModel" "stands" "[I") (List.mem_of_getElem? (i := 5) rfl)) (fun _ h9 => h9) rfl dX8_copies_159 ?_
              refine lv_iload_n hx hb dX8_copies_162 rfl (lv_at hl 0 rfl) ?_
              refine va_iald hx hb hK hP 4 0 rfl rfl (vp_in_iff.mpr (by decide)) dX8_copies_163 ?_
              refine lv_topi (fun x_8 ex_8 => ?_)
              obtain rfl : s3 = x_8 := ex_8.symm
              refine lv_istore_n (lv' := [(3, .int s3), (2, .int 3), (1, .int 0), (0, .ref m0)]) hx hb dX8_copies_164 rfl hl (by decide) rfl (fun ls hl => ?_)
              have J230 : ∀ (vv : Int64) (st : Int32), jT_ st j3 → ∀ (H : Heap) (locs : List Loc), va_P D vwCl [(m0, .inr (8, [.ref mH, .int aM, .long aC, .int mM, .long mQ, .int oV, .int pL, .int lI, .int sW, .int dP, .int sT, .long aT, .int 4, .int iW, .ref mI, .ref mJ, .ref mS, .ref mD, .int iH, .int aE, .int mN, .long sZ, .ref mX, .int tS, .int tA, .int tW, .ref mA, .ref mB, .ref mW, .ref mL, .int lS])), (mH, .inl (cI, 512, .inl fH)), (mI, .inl (cL, 1200, .inr (.inl fI))), (mJ, .inl (cI, 4, .inl (k4i j0 j1 j2 j3))), (mS, .inl (cI, 4, .inl (k4i s0 s1 s2 st))), (mD, .inl (cL, 256, .inr (.inl fD)))] H → va_D A [(m0, .inr (8, [.ref mH, .int aM, .long aC, .int mM, .long mQ, .int oV, .int pL, .int lI, .int sW, .int dP, .int sT, .long aT, .int 4, .int iW, .ref mI, .ref mJ, .ref mS, .ref mD, .int iH, .int aE, .int mN, .long sZ, .ref mX, .int tS, .int tA, .int tW, .ref mA, .ref mB, .ref mW, .ref mL, .int lS])), (mH, .inl (cI, 512, .inl fH)), (mI, .inl (cL, 1200, .inr (.inl fI))), (mJ, .inl (cI, 4, .inl (k4i j0 j1 j2 j3))), (mS, .inl (cI, 4, .inl (k4i s0 s1 s2 st))), (mD, .inl (cL, 256, .inr (.inl fD)))] → va_S A s.heap H locs → ∀ ls : Array Slot, lv_has ls 6 [(4, .long vv), (3, .int s3), (2, .int 3), (1, .int 0), (0, .ref m0)] → W p l e ({ frames := 2, cells := 0, slots := 0, locals := 45 }) s m args below meth c H locs 0 0 (MQ below (kQ (S := (Int32 × Int32 × Int32 × Int32 × (Nat → Int32) × (Nat → Int64) × (Nat → Int64) × Int32 × Int32 × Int32 × Int32 × Int32 × Int32 × Int32 × Int32)) eI (fun r u => (0 ≤ r.toInt ∧ r.toInt ≤ 6) ∧ jP_ (u.1) ∧ jD_ (u.2.1) ∧ jC_ (u.2.2.1) ∧ jW_ (u.2.2.2.1) (u.2.2.1) ∧ jT_ (u.2.2.2.2.2.2.2.2.2.2.2.1) (u.2.2.2.2.2.2.2.1) ∧ jT_ (u.2.2.2.2.2.2.2.2.2.2.2.2.1) (u.2.2.2.2.2.2.2.2.1) ∧ jT_ (u.2.2.2.2.2.2.2.2.2.2.2.2.2.1) (u.2.2.2.2.2.2.2.2.2.1) ∧ jT_ (u.2.2.2.2.2.2.2.2.2.2.2.2.2.2) (u.2.2.2.2.2.2.2.2.2.2.1)) D (fun u => [(m0, .inr (8, [.ref mH, .int aM, .long aC, .int mM, .long mQ, .int oV, .int u.1, .int lI, .int sW, .int u.2.1, .int sT, .long aT, .int u.2.2.1, .int u.2.2.2.1, .ref mI, .ref mJ, .ref mS, .ref mD, .int iH, .int aE, .int mN, .long sZ, .ref mX, .int tS, .int tA, .int tW, .ref mA, .ref mB, .ref mW, .ref mL, .int lS])), (mH, .inl (cI, 512, .inl u.2.2.2.2.1)), (mI, .inl (cL, 1200, .inr (.inl u.2.2.2.2.2.2.1))), (mJ, .inl (cI, 4, .inl (k4i u.2.2.2.2.2.2.2.1 u.2.2.2.2.2.2.2.2.1 u.2.2.2.2.2.2.2.2.2.1 u.2.2.2.2.2.2.2.2.2.2.1))), (mS, .inl (cI, 4, .inl (k4i u.2.2.2.2.2.2.2.2.2.2.2.1 u.2.2.2.2.2.2.2.2.2.2.2.2.1 u.2.2.2.2.2.2.2.2.2.2.2.2.2.1 u.2.2.2.2.2.2.2.2.2.2.2.2.2.2))), (mD, .inl (cL, 256, .inr (.inl u.2.2.2.2.2.1)))]) A) args s 0 0 A) (F0 m 230 ls []) := by
                intro vv st hst H locs hP hD hS ls hl
                refine lv_lload hx hb dX8_copies_230 (lv_at hl 0 rfl) ?_
                refine lv_lconst (v := 0) hx hb dX8_copies_232 (by decide) ?_
                refine W.lcmp hx hb dX8_copies_233 ?_
                refine lv_if_lt (tgt := 246) hx hb dX8_copies_234 (by decide) (fun c_234_8 => ?_) (fun c_234_8 => ?_)
                · have t_234_8 := c_234_8
                  try simp only [kb_eq0, kb_ne0, lg_cmp_lt, lg_cmp_le, lg_cmp_gt, lg_cmp_ge, lg_cmp_eq] at t_234_8
                  try simp only [Int32.lt_iff_toInt_lt, Int32.le_iff_toInt_le, ← Int32.toInt_inj, Int64.lt_iff_toInt_lt, Int64.le_iff_toInt_le, ← Int64.toInt_inj, Int32.toInt_toInt64, Int32.reduceToInt, Int64.reduceToInt] at t_234_8
                  refine lv_aload_n hx hb dX8_copies_246 rfl (lv_at hl 4 rfl) ?_
                  refine lv_iconst (v := 0) hx hb dX8_copies_247 (by decide) ?_
                  refine va_put (D := D) (ci := 8) (v := .int 0) (ty := .int) (C := RX8) (T := TX8) (N := 31) hx hb hts iX8_copies_X8 tyX8 tyX8_ok nmX8 hown hK hP hD hS 0 rfl rfl 12 (by decide) (hts (.fieldLink RX8 43 "TapeCalculatorModel" "chosen" "I") (List.mem_of_getElem? (i := 1) rfl)) (fun _ h9 => h9) rfl (by decide +kernel) rfl rfl (Nat.le_of_ble_eq_true rfl) dX8_copies_248 (fun H locs hP hD hS => ?_)
                  have hP : va_P D vwCl [(m0, .inr (8, [.ref mH, .int aM, .long aC, .int mM, .long mQ, .int oV, .int pL, .int lI, .int sW, .int dP, .int sT, .long aT, .int 0, .int iW, .ref mI, .ref mJ, .ref mS, .ref mD, .int iH, .int aE, .int mN, .long sZ, .ref mX, .int tS, .int tA, .int tW, .ref mA, .ref mB, .ref mW, .ref mL, .int lS])), (mH, .inl (cI, 512, .inl fH)), (mI, .inl (cL, 1200, .inr (.inl fI))), (mJ, .inl (cI, 4, .inl (k4i j0 j1 j2 j3))), (mS, .inl (cI, 4, .inl (k4i s0 s1 s2 st))), (mD, .inl (cL, 256, .inr (.inl fD)))] H := hP
                  have hD : va_D A [(m0, .inr (8, [.ref mH, .int aM, .long aC, .int mM, .long mQ, .int oV, .int pL, .int lI, .int sW, .int dP, .int sT, .long aT, .int 0, .int iW, .ref mI, .ref mJ, .ref mS, .ref mD, .int iH, .int aE, .int mN, .long sZ, .ref mX, .int tS, .int tA, .int tW, .ref mA, .ref mB, .ref mW, .ref mL, .int lS])), (mH, .inl (cI, 512, .inl fH)), (mI, .inl (cL, 1200, .inr (.inl fI))), (mJ, .inl (cI, 4, .inl (k4i j0 j1 j2 j3))), (mS, .inl (cI, 4, .inl (k4i s0 s1 s2 st))), (mD, .inl (cL, 256, .inr (.inl fD)))] := hD
                  refine lv_aload_n hx hb dX8_copies_251 rfl (lv_at hl 4 rfl) ?_
                  refine lv_lload hx hb dX8_copies_252 (lv_at hl 0 rfl) ?_
                  refine lv_ldc2 (v := (-2)) hx hb hown (hts (.constantLong RX8 111 (-2)) (List.mem_of_getElem? (i := 9) rfl)) dX8_copies_254 ?_
                  refine W.lcmp hx hb dX8_copies_257 ?_
                  refine lv_if_ne (tgt := 265) hx hb dX8_copies_258 (by decide) (fun c_258_9 => ?_) (fun c_258_9 => ?_)
                  · have t_258_9 := c_258_9
                    try simp only [kb_eq0, kb_ne0, lg_cmp_lt, lg_cmp_le, lg_cmp_gt, lg_cmp_ge, lg_cmp_eq] at t_258_9
                    try simp only [Int32.lt_iff_toInt_lt, Int32.le_iff_toInt_le, ← Int32.toInt_inj, Int64.lt_iff_toInt_lt, Int64.le_iff_toInt_le, ← Int64.toInt_inj, Int32.toInt_toInt64, Int32.reduceToInt, Int64.reduceToInt] at t_258_9
                    refine lv_iconst (v := 1) hx hb dX8_copies_265 (by decide) ?_
                    refine kCallVd (wr := [(mH, .inl (cI, 512, .inl fH)), (mI, .inl (cL, 1200, .inr (.inl fI))), (mJ, .inl (cI, 4, .inl (k4i j0 j1 j2 j3))), (mS, .inl (cI, 4, .inl (k4i s0 s1 s2 st))), (mD, .inl (cL, 256, .inr (.inl fD)))]) (va_runV (As := [.int 1]) (rest := []) ⟨hx, hb, hml, hown, hts⟩ (q_go l D cI cL cB cZ cT _ m0 mH mI mJ mS mD mX mA mB mW mL aM aC mM mQ oV pL lI sW dP sT aT 0 iW iH aE mN sZ tS tA tW lS 1) (cwV 1 hts gX8_copies_X8_go rfl rfl rfl (by decide +kernel) ⟨Nat.le_of_ble_eq_true rfl, Nat.le_of_ble_eq_true rfl⟩) (kPreV hG hP hD [0] rfl (by decide) 0 8 rfl rfl rfl) rfl rfl hl.1 rfl (lv_room (Nat.le_of_ble_eq_true rfl)) dX8_copies_266 ⟨Nat.le_of_ble_eq_true rfl, Nat.le_of_ble_eq_true rfl⟩) hA hP hD hS [0] [1, 2, 3, 4, 5] rfl rfl (by decide) (by decide) (fun _ u_r_11 H locs wr_11 hP hD hS => ?_)
                    have hP : va_P D vwCl [(mH, .inl (cI, 512, .inl fH)), (mI, .inl (cL, 1200, .inr (.inl fI))), (mJ, .inl (cI, 4, .inl (k4i j0 j1 j2 j3))), (mS, .inl (cI, 4, .inl (k4i s0 s1 s2 st))), (mD, .inl (cL, 256, .inr (.inl fD))), (m0, .inr (8, [.ref mH, .int aM, .long aC, .int mM, .long mQ, .int oV, .int u_r_11, .int lI, .int sW, .int dP, .int sT, .long aT, .int 0, .int iW, .ref mI, .ref mJ, .ref mS, .ref mD, .int iH, .int aE, .int mN, .long sZ, .ref mX, .int tS, .int tA, .int tW, .ref mA, .ref mB, .ref mW, .ref mL, .int lS]))] H := hP
                    have hD : va_D A [(mH, .inl (cI, 512, .inl fH)), (mI, .inl (cL, 1200, .inr (.inl fI))), (mJ, .inl (cI, 4, .inl (k4i j0 j1 j2 j3))), (mS, .inl (cI, 4, .inl (k4i s0 s1 s2 st))), (mD, .inl (cL, 256, .inr (.inl fD))), (m0, .inr (8, [.ref mH, .int aM, .long aC, .int mM, .long mQ, .int oV, .int u_r_11, .int lI, .int sW, .int dP, .int sT, .long aT, .int 0, .int iW, .ref mI, .ref mJ, .ref mS, .ref mD, .int iH, .int aE, .int mN, .long sZ, .ref mX, .int tS, .int tA, .int tW, .ref mA, .ref mB, .ref mW, .ref mL, .int lS]))] := hD
                    try dsimp only at wr_11
                    try simp only [Int32.reduceToInt, Int64.reduceToInt] at wr_11
                    refine lv_iconst (v := 0) hx hb dX8_copies_269 (by decide) ?_
                    refine kIret (u := (u_r_11, dP, 0, iW, fH, fD, fI, j0, j1, j2, j3, s0, s1, s2, st)) hx hb hr rfl hlocks hS dX8_copies_270 ?_ (hP.sub [5, 0, 1, 2, 3, 4] rfl) (hD.sub [5, 0, 1, 2, 3, 4] (by decide) rfl)
                    try dsimp only
                    repeat' (with_reducible apply And.intro)
                    all_goals first | with_reducible assumption | ((try simp only [jT_, jP_, jD_, jC_, jB_, jW_, Int32.reduceToInt, Int64.reduceToInt, true_or, or_true, true_and, and_true]) <;> omega)
                  · have t_258_9 := c_258_9
                    try simp only [kb_eq0, kb_ne0, lg_cmp_lt, lg_cmp_le, lg_cmp_gt, lg_cmp_ge, lg_cmp_eq] at t_258_9
                    try simp only [Int32.lt_iff_toInt_lt, Int32.le_iff_toInt_le, ← Int32.toInt_inj, Int64.lt_iff_toInt_lt, Int64.le_iff_toInt_le, ← Int64.toInt_inj, Int32.toInt_toInt64, Int32.reduceToInt, Int64.reduceToInt] at t_258_9
                    refine lv_iconst (v := 2) hx hb dX8_copies_261 (by decide) ?_
                    refine lv_goto (tgt := 266) hx hb dX8_copies_262 (by decide) ?_
                    refine kCallVd (wr := [(mH, .inl (cI, 512, .inl fH)), (mI, .inl (cL, 1200, .inr (.inl fI))), (mJ, .inl (cI, 4, .inl (k4i j0 j1 j2 j3))), (mS, .inl (cI, 4, .inl (k4i s0 s1 s2 st))), (mD, .inl (cL, 256, .inr (.inl fD)))]) (va_runV (As := [.int 2]) (rest := []) ⟨hx, hb, hml, hown, hts⟩ (q_go l D cI cL cB cZ cT _ m0 mH mI mJ mS mD mX mA mB mW mL aM aC mM mQ oV pL lI sW dP sT aT 0 iW iH aE mN sZ tS tA tW lS 2) (cwV 1 hts gX8_copies_X8_go rfl rfl rfl (by decide +kernel) ⟨Nat.le_of_ble_eq_true rfl, Nat.le_of_ble_eq_true rfl⟩) (kPreV hG hP hD [0] rfl (by decide) 0 8 rfl rfl rfl) rfl rfl hl.1 rfl (lv_room (Nat.le_of_ble_eq_true rfl)) dX8_copies_266 ⟨Nat.le_of_ble_eq_true rfl, Nat.le_of_ble_eq_true rfl⟩) hA hP hD hS [0] [1, 2, 3, 4, 5] rfl rfl (by decide) (by decide) (fun _ u_r_12 H locs wr_12 hP hD hS => ?_)
                    have hP : va_P D vwCl [(mH, .inl (cI, 512, .inl fH)), (mI, .inl (cL, 1200, .inr (.inl fI))), (mJ, .inl (cI, 4, .inl (k4i j0 j1 j2 j3))), (mS, .inl (cI, 4, .inl (k4i s0 s1 s2 st))), (mD, .inl (cL, 256, .inr (.inl fD))), (m0, .inr (8, [.ref mH, .int aM, .long aC, .int mM, .long mQ, .int oV, .int u_r_12, .int lI, .int sW, .int dP, .int sT, .long aT, .int 0, .int iW, .ref mI, .ref mJ, .ref mS, .ref mD, .int iH, .int aE, .int mN, .long sZ, .ref mX, .int tS, .int tA, .int tW, .ref mA, .ref mB, .ref mW, .ref mL, .int lS]))] H := hP
                    have hD : va_D A [(mH, .inl (cI, 512, .inl fH)), (mI, .inl (cL, 1200, .inr (.inl fI))), (mJ, .inl (cI, 4, .inl (k4i j0 j1 j2 j3))), (mS, .inl (cI, 4, .inl (k4i s0 s1 s2 st))), (mD, .inl (cL, 256, .inr (.inl fD))), (m0, .inr (8, [.ref mH, .int aM, .long aC, .int mM, .long mQ, .int oV, .int u_r_12, .int lI, .int sW, .int dP, .int sT, .long aT, .int 0, .int iW, .ref mI, .ref mJ, .ref mS, .ref mD, .int iH, .int aE, .int mN, .long sZ, .ref mX, .int tS, .int tA, .int tW, .ref mA, .ref mB, .ref mW, .ref mL, .int lS]))] := hD
                    try dsimp only at wr_12
                    try simp only [Int32.reduceToInt, Int64.reduceToInt] at wr_12
                    refine lv_iconst (v := 0) hx hb dX8_copies_269 (by decide) ?_
                    refine kIret (u := (u_r_12, dP, 0, iW, fH, fD, fI, j0, j1, j2, j3, s0, s1, s2, st)) hx hb hr rfl hlocks hS dX8_copies_270 ?_ (hP.sub [5, 0, 1, 2, 3, 4] rfl) (hD.sub [5, 0, 1, 2, 3, 4] (by decide) rfl)
                    try dsimp only
                    repeat' (with_reducible apply And.intro)
                    all_goals first | with_reducible assumption | ((try simp only [jT_, jP_, jD_, jC_, jB_, jW_, Int32.reduceToInt, Int64.reduceToInt, true_or, or_true, true_and, and_true]) <;> omega)
                · have t_234_8 := c_234_8
                  try simp only [kb_eq0, kb_ne0, lg_cmp_lt, lg_cmp_le, lg_cmp_gt, lg_cmp_ge, lg_cmp_eq] at t_234_8
                  try simp only [Int32.lt_iff_toInt_lt, Int32.le_iff_toInt_le, ← Int32.toInt_inj, Int64.lt_iff_toInt_lt, Int64.le_iff_toInt_le, ← Int64.toInt_inj, Int32.toInt_toInt64, Int32.reduceToInt, Int64.reduceToInt] at t_234_8
                  refine lv_aload_n hx hb dX8_copies_237 rfl (lv_at hl 4 rfl) ?_
                  refine lv_lload hx hb dX8_copies_238 (lv_at hl 0 rfl) ?_
                  refine kCallVd (wr := [(mI, .inl (cL, 1200, .inr (.inl fI))), (mJ, .inl (cI, 4, .inl (k4i j0 j1 j2 j3))), (mS, .inl (cI, 4, .inl (k4i s0 s1 s2 st))), (mD, .inl (cL, 256, .inr (.inl fD)))]) (va_runV (As := [.long vv]) (rest := []) ⟨hx, hb, hml, hown, hts⟩ (q_store l D cI cL cB cZ cT _ m0 mH mI mJ mS mD mX mA mB mW mL aM aC mM mQ oV pL lI sW dP sT aT 4 iW iH aE mN sZ tS tA tW lS fH vv (by omega)) (cwV 1 hts gX8_copies_X8_store rfl rfl rfl (by decide +kernel) ⟨Nat.le_of_ble_eq_true rfl, Nat.le_of_ble_eq_true rfl⟩) (kPreV hG hP hD [0, 1] rfl (by decide) 0 8 rfl rfl rfl) rfl rfl hl.1 rfl (lv_room (Nat.le_of_ble_eq_true rfl)) dX8_copies_240 ⟨Nat.le_of_ble_eq_true rfl, Nat.le_of_ble_eq_true rfl⟩) hA hP hD hS [0, 1] [2, 3, 4, 5] rfl rfl (by decide) (by decide) (fun _ u_r_13 H locs wr_13 hP hD hS => ?_)
                  have hP : va_P D vwCl [(mI, .inl (cL, 1200, .inr (.inl fI))), (mJ, .inl (cI, 4, .inl (k4i j0 j1 j2 j3))), (mS, .inl (cI, 4, .inl (k4i s0 s1 s2 st))), (mD, .inl (cL, 256, .inr (.inl fD))), (m0, .inr (8, [.ref mH, .int aM, .long aC, .int mM, .long mQ, .int oV, .int pL, .int lI, .int sW, .int dP, .int sT, .long aT, .int 4, .int iW, .ref mI, .ref mJ, .ref mS, .ref mD, .int iH, .int aE, .int mN, .long sZ, .ref mX, .int tS, .int tA, .int tW, .ref mA, .ref mB, .ref mW, .ref mL, .int lS])), (mH, .inl (cI, 512, .inl u_r_13))] H := hP
                  have hD : va_D A [(mI, .inl (cL, 1200, .inr (.inl fI))), (mJ, .inl (cI, 4, .inl (k4i j0 j1 j2 j3))), (mS, .inl (cI, 4, .inl (k4i s0 s1 s2 st))), (mD, .inl (cL, 256, .inr (.inl fD))), (m0, .inr (8, [.ref mH, .int aM, .long aC, .int mM, .long mQ, .int oV, .int pL, .int lI, .int sW, .int dP, .int sT, .long aT, .int 4, .int iW, .ref mI, .ref mJ, .ref mS, .ref mD, .int iH, .int aE, .int mN, .long sZ, .ref mX, .int tS, .int tA, .int tW, .ref mA, .ref mB, .ref mW, .ref mL, .int lS])), (mH, .inl (cI, 512, .inl u_r_13))] := hD
                  try dsimp only at wr_13
                  try simp only [Int32.reduceToInt, Int64.reduceToInt] at wr_13
                  refine lv_goto (tgt := 269) hx hb dX8_copies_243 (by decide) ?_
                  refine lv_iconst (v := 0) hx hb dX8_copies_269 (by decide) ?_
                  refine kIret (u := (pL, dP, 4, iW, u_r_13, fD, fI, j0, j1, j2, j3, s0, s1, s2, st)) hx hb hr rfl hlocks hS dX8_copies_270 ?_ (hP.sub [4, 5, 0, 1, 2, 3] rfl) (hD.sub [4, 5, 0, 1, 2, 3] (by decide) rfl)
                  try dsimp only
                  repeat' (with_reducible apply And.intro)
                  all_goals first | with_reducible assumption | ((try simp only [jT_, jP_, jD_, jC_, jB_, jW_, Int32.reduceToInt, Int64.reduceToInt, true_or, or_true, true_and, and_true]) <;> omega)
              refine lv_iload_n hx hb dX8_copies_165 rfl (lv_at hl 0 rfl) ?_
              refine lv_i2l hx hb dX8_copies_166 rfl ?_
              refine lv_lconst (v := 0) hx hb dX8_copies_167 (by decide) ?_
              refine lv_aload_n hx hb dX8_copies_168 rfl (lv_at hl 3 rfl) ?_
              refine va_get (D := D) (ci := 8) (v := .ref mJ) (C := RX8) (T := TX8) (N := 31) hx hb hts iX8_copies_X8 hown hK hP 0 rfl rfl 15 (by decide) (hts (.fieldLink RX8 17 "TapeCalculatorModel" "items" "[I") (List.mem_of_getElem? (i := 6) rfl)) (fun _ h9 => h9) rfl dX8_copies_169 ?_
              refine lv_iload_n hx hb dX8_copies_172 rfl (lv_at hl 1 rfl) ?_
              refine va_iald hx hb hK hP 3 0 rfl rfl (vp_in_iff.mpr (by decide)) dX8_copies_173 ?_
              refine lv_topi (fun x_14 ex_14 => ?_)
              obtain rfl : j3 = x_14 := ex_14.symm
              refine lv_iconst (v := 1) hx hb dX8_copies_174 (by decide) ?_
              refine lv_isub hx hb dX8_copies_175 ?_
              refine lv_topi (fun x_15 ex_15 => ?_)
              have hs0 := k_sub (a := j3) (b := 1) (by omega) (by decide)
              simp only [Int32.reduceToInt, show (-1 : Int32).toInt = -1 from rfl] at hs0
              rw [← ex_15] at hs0
              refine lv_i2l hx hb dX8_copies_176 rfl ?_
              refine kCallI (wr := [(m0, .inr (8, [.ref mH, .int aM, .long aC, .int mM, .long mQ, .int oV, .int pL, .int lI, .int sW, .int dP, .int sT, .long aT, .int 4, .int iW, .ref mI, .ref mJ, .ref mS, .ref mD, .int iH, .int aE, .int mN, .long sZ, .ref mX, .int tS, .int tA, .int tW, .ref mA, .ref mB, .ref mW, .ref mL, .int lS])), (mH, .inl (cI, 512, .inl fH)), (mI, .inl (cL, 1200, .inr (.inl fI))), (mJ, .inl (cI, 4, .inl (k4i j0 j1 j2 j3))), (mS, .inl (cI, 4, .inl (k4i s0 s1 s2 s3))), (mD, .inl (cL, 256, .inr (.inl fD)))]) (va_runS (As := [.long s3.toInt64, .long 0, .long x_15.toInt64]) (rest := []) ⟨hx, hb, hml, hown, hts⟩ (q_in l D cI cL cB cZ cT _ (s3.toInt64) 0 (x_15.toInt64)) (va_cwS 3 hts gX8_copies_X8_in rfl rfl rfl (by decide +kernel) ⟨Nat.le_of_ble_eq_true rfl, Nat.le_of_ble_eq_true rfl⟩) (kPreS hG hP hD [] rfl (by decide)) rfl rfl hl.1 rfl (lv_room (Nat.le_of_ble_eq_true rfl)) dX8_copies_177 ⟨Nat.le_of_ble_eq_true rfl, Nat.le_of_ble_eq_true rfl⟩) hA hP hD hS [] [0, 1, 2, 3, 4, 5] rfl rfl (by decide) (by decide) (fun r_16 u_r_16 H locs wr_16 hP hD hS => ?_)
              have hP : va_P D vwCl [(m0, .inr (8, [.ref mH, .int aM, .long aC, .int mM, .long mQ, .int oV, .int pL, .int lI, .int sW, .int dP, .int sT, .long aT, .int 4, .int iW, .ref mI, .ref mJ, .ref mS, .ref mD, .int iH, .int aE, .int mN, .long sZ, .ref mX, .int tS, .int tA, .int tW, .ref mA, .ref mB, .ref mW, .ref mL, .int lS])), (mH, .inl (cI, 512, .inl fH)), (mI, .inl (cL, 1200, .inr (.inl fI))), (mJ, .inl (cI, 4, .inl (k4i j0 j1 j2 j3))), (mS, .inl (cI, 4, .inl (k4i s0 s1 s2 s3))), (mD, .inl (cL, 256, .inr (.inl fD)))] H := hP
              have hD : va_D A [(m0, .inr (8, [.ref mH, .int aM, .long aC, .int mM, .long mQ, .int oV, .int pL, .int lI, .int sW, .int dP, .int sT, .long aT, .int 4, .int iW, .ref mI, .ref mJ, .ref mS, .ref mD, .int iH, .int aE, .int mN, .long sZ, .ref mX, .int tS, .int tA, .int tW, .ref mA, .ref mB, .ref mW, .ref mL, .int lS])), (mH, .inl (cI, 512, .inl fH)), (mI, .inl (cL, 1200, .inr (.inl fI))), (mJ, .inl (cI, 4, .inl (k4i j0 j1 j2 j3))), (mS, .inl (cI, 4, .inl (k4i s0 s1 s2 s3))), (mD, .inl (cL, 256, .inr (.inl fD)))] := hD
              try dsimp only at wr_16
              subst wr_16
              refine lv_if_eq (tgt := 198) hx hb dX8_copies_180 (by decide) (fun c_180_16 => ?_) (fun c_180_16 => ?_)
              · have t_180_16 := c_180_16
                try simp only [kb_eq0, kb_ne0, lg_cmp_lt, lg_cmp_le, lg_cmp_gt, lg_cmp_ge, lg_cmp_eq] at t_180_16
                try simp only [Int32.lt_iff_toInt_lt, Int32.le_iff_toInt_le, ← Int32.toInt_inj, Int64.lt_iff_toInt_lt, Int64.le_iff_toInt_le, ← Int64.toInt_inj, Int32.toInt_toInt64, Int32.reduceToInt, Int64.reduceToInt] at t_180_16
                refine lv_ldc2 (v := (-9)) hx hb hown (hts (.constantLong RX8 107 (-9)) (List.mem_of_getElem? (i := 8) rfl)) dX8_copies_198 ?_
                refine lv_lstore (lv' := [(4, .long (-9)), (3, .int s3), (2, .int 3), (1, .int 0), (0, .ref m0)]) hx hb dX8_copies_201 hl (by decide) rfl (fun ls hl => ?_)
                refine lv_lload hx hb dX8_copies_203 (lv_at hl 0 rfl) ?_
                refine lv_ldc2 (v := (-9)) hx hb hown (hts (.constantLong RX8 107 (-9)) (List.mem_of_getElem? (i := 8) rfl)) dX8_copies_205 ?_
                refine W.lcmp hx hb dX8_copies_208 ?_
                refine lv_topi (fun x_18 ex_18 => ?_)
                obtain rfl : x_18 = 0 := ex_18.trans (by decide)
                refine lv_if_eq (tgt := 230) hx hb dX8_copies_209 (by decide) (fun c_209_18 => ?_) (fun c_209_18 => ?_)
                · have t_209_18 := c_209_18
                  try simp only [kb_eq0, kb_ne0, lg_cmp_lt, lg_cmp_le, lg_cmp_gt, lg_cmp_ge, lg_cmp_eq] at t_209_18
                  try simp only [Int32.lt_iff_toInt_lt, Int32.le_iff_toInt_le, ← Int32.toInt_inj, Int64.lt_iff_toInt_lt, Int64.le_iff_toInt_le, ← Int64.toInt_inj, Int32.toInt_toInt64, Int32.reduceToInt, Int64.reduceToInt] at t_209_18
                  exact J230 (-9) s3 (by first | with_reducible assumption | ((try simp only [jT_, jP_, jD_, jC_, jB_, jW_, Int32.reduceToInt, Int64.reduceToInt, true_or, or_true, true_and, and_true]) <;> omega)) _ _ (hP.sub [0, 1, 2, 3, 4, 5] rfl) (hD.sub [0, 1, 2, 3, 4, 5] (by decide) rfl) hS ls (lv_sub hl [0, 1, 2, 3, 4] rfl)
                · exact absurd (by decide) c_209_18
              · have t_180_16 := c_180_16
                try simp only [kb_eq0, kb_ne0, lg_cmp_lt, lg_cmp_le, lg_cmp_gt, lg_cmp_ge, lg_cmp_eq] at t_180_16
                try simp only [Int32.lt_iff_toInt_lt, Int32.le_iff_toInt_le, ← Int32.toInt_inj, Int64.lt_iff_toInt_lt, Int64.le_iff_toInt_le, ← Int64.toInt_inj, Int32.toInt_toInt64, Int32.reduceToInt, Int64.reduceToInt] at t_180_16
                refine lv_aload_n hx hb dX8_copies_183 rfl (lv_at hl 3 rfl) ?_
                refine va_get (D := D) (ci := 8) (v := .ref mI) (C := RX8) (T := TX8) (N := 31) hx hb hts iX8_copies_X8 hown hK hP 0 rfl rfl 14 (by decide) (hts (.fieldLink RX8 13 "TapeCalculatorModel" "item" "[J") (List.mem_of_getElem? (i := 7) rfl)) (fun _ h9 => h9) rfl dX8_copies_184 ?_
                refine lv_sipush (v := 300) hx hb dX8_copies_187 (by decide) ?_
                refine lv_iload_n hx hb dX8_copies_190 rfl (lv_at hl 1 rfl) ?_
                refine lv_imul hx hb dX8_copies_191 ?_
                refine lv_topi (fun x_20 ex_20 => ?_)
                obtain rfl : x_20 = 900 := ex_20.trans (by decide)
                refine lv_iload_n hx hb dX8_copies_192 rfl (lv_at hl 0 rfl) ?_
                refine lv_iadd hx hb dX8_copies_193 ?_
                refine va_lald hx hb hK hP 2 1 rfl rfl (vp_in_iff.mpr (by have hx9 := k_addg (a := 900) (b := s3) (by decide) (by omega); simp only [Int32.reduceToInt] at hx9; omega)) dX8_copies_194 ?_
                refine lv_goto (tgt := 201) hx hb dX8_copies_195 (by decide) ?_
                refine lv_topl (fun x_21 ex_21 => ?_)
                refine lv_lstore (lv' := [(4, .long x_21), (3, .int s3), (2, .int 3), (1, .int 0), (0, .ref m0)]) hx hb dX8_copies_201 hl (by decide) rfl (fun ls hl => ?_)
                refine lv_lload hx hb dX8_copies_203 (lv_at hl 0 rfl) ?_
                refine lv_ldc2 (v := (-9)) hx hb hown (hts (.constantLong RX8 107 (-9)) (List.mem_of_getElem? (i := 8) rfl)) dX8_copies_205 ?_
                refine W.lcmp hx hb dX8_copies_208 ?_
                refine lv_if_eq (tgt := 230) hx hb dX8_copies_209 (by decide) (fun c_209_21 => ?_) (fun c_209_21 => ?_)
                · have t_209_21 := c_209_21
                  try simp only [kb_eq0, kb_ne0, lg_cmp_lt, lg_cmp_le, lg_cmp_gt, lg_cmp_ge, lg_cmp_eq] at t_209_21
                  try simp only [Int32.lt_iff_toInt_lt, Int32.le_iff_toInt_le, ← Int32.toInt_inj, Int64.lt_iff_toInt_lt, Int64.le_iff_toInt_le, ← Int64.toInt_inj, Int32.toInt_toInt64, Int32.reduceToInt, Int64.reduceToInt] at t_209_21
                  exact J230 x_21 s3 (by first | with_reducible assumption | ((try simp only [jT_, jP_, jD_, jC_, jB_, jW_, Int32.reduceToInt, Int64.reduceToInt, true_or, or_true, true_and, and_true]) <;> omega)) _ _ (hP.sub [0, 1, 2, 3, 4, 5] rfl) (hD.sub [0, 1, 2, 3, 4, 5] (by decide) rfl) hS ls (lv_sub hl [0, 1, 2, 3, 4] rfl)
                · have t_209_21 := c_209_21
                  try simp only [kb_eq0, kb_ne0, lg_cmp_lt, lg_cmp_le, lg_cmp_gt, lg_cmp_ge, lg_cmp_eq] at t_209_21
                  try simp only [Int32.lt_iff_toInt_lt, Int32.le_iff_toInt_le, ← Int32.toInt_inj, Int64.lt_iff_toInt_lt, Int64.le_iff_toInt_le, ← Int64.toInt_inj, Int32.toInt_toInt64, Int32.reduceToInt, Int64.reduceToInt] at t_209_21
                  refine lv_aload_n hx hb dX8_copies_212 rfl (lv_at hl 4 rfl) ?_
                  refine va_get (D := D) (ci := 8) (v := .ref mS) (C := RX8) (T := TX8) (N := 31) hx hb hts iX8_copies_X8 hown hK hP 0 rfl rfl 16 (by decide) (hts (.fieldLink RX8 20 "TapeCalculatorModel" "stands" "[I") (List.mem_of_getElem? (i := 5) rfl)) (fun _ h9 => h9) rfl dX8_copies_213 ?_
                  refine lv_iload_n hx hb dX8_copies_216 rfl (lv_at hl 2 rfl) ?_
                  refine lv_dup2_11 hx hb dX8_copies_217 rfl rfl ?_
                  refine va_iald hx hb hK hP 4 0 rfl rfl (vp_in_iff.mpr (by decide)) dX8_copies_218 ?_
                  refine lv_topi (fun x_23 ex_23 => ?_)
                  obtain rfl : s3 = x_23 := ex_23.symm
                  refine lv_iload_n hx hb dX8_copies_219 rfl (lv_at hl 3 rfl) ?_
                  refine lv_if_eq (tgt := 227) hx hb dX8_copies_220 (by decide) (fun c_220_23 => ?_) (fun c_220_23 => ?_)
                  · have t_220_23 := c_220_23
                    try simp only [kb_eq0, kb_ne0, lg_cmp_lt, lg_cmp_le, lg_cmp_gt, lg_cmp_ge, lg_cmp_eq] at t_220_23
                    try simp only [Int32.lt_iff_toInt_lt, Int32.le_iff_toInt_le, ← Int32.toInt_inj, Int64.lt_iff_toInt_lt, Int64.le_iff_toInt_le, ← Int64.toInt_inj, Int32.toInt_toInt64, Int32.reduceToInt, Int64.reduceToInt] at t_220_23
                    refine lv_iconst (v := 1) hx hb dX8_copies_227 (by decide) ?_
                    refine lv_iadd hx hb dX8_copies_228 ?_
                    refine lv_topi (fun x_25 ex_25 => ?_)
                    have hs2 := k_addg (a := s3) (b := 1) (by omega) (by decide)
                    simp only [Int32.reduceToInt, show (-1 : Int32).toInt = -1 from rfl] at hs2
                    rw [← ex_25] at hs2
                    refine va_iast hx hb hK hP hD hS 4 0 rfl rfl (vp_in_iff.mpr (by decide)) dX8_copies_229 (fun H locs hP hD hS => ?_)
                    rw [k4i_3] at hP hD
                    have hP : va_P D vwCl [(m0, .inr (8, [.ref mH, .int aM, .long aC, .int mM, .long mQ, .int oV, .int pL, .int lI, .int sW, .int dP, .int sT, .long aT, .int 4, .int iW, .ref mI, .ref mJ, .ref mS, .ref mD, .int iH, .int aE, .int mN, .long sZ, .ref mX, .int tS, .int tA, .int tW, .ref mA, .ref mB, .ref mW, .ref mL, .int lS])), (mH, .inl (cI, 512, .inl fH)), (mI, .inl (cL, 1200, .inr (.inl fI))), (mJ, .inl (cI, 4, .inl (k4i j0 j1 j2 j3))), (mS, .inl (cI, 4, .inl (k4i s0 s1 s2 x_25))), (mD, .inl (cL, 256, .inr (.inl fD)))] H := hP
                    have hD : va_D A [(m0, .inr (8, [.ref mH, .int aM, .long aC, .int mM, .long mQ, .int oV, .int pL, .int lI, .int sW, .int dP, .int sT, .long aT, .int 4, .int iW, .ref mI, .ref mJ, .ref mS, .ref mD, .int iH, .int aE, .int mN, .long sZ, .ref mX, .int tS, .int tA, .int tW, .ref mA, .ref mB, .ref mW, .ref mL, .int lS])), (mH, .inl (cI, 512, .inl fH)), (mI, .inl (cL, 1200, .inr (.inl fI))), (mJ, .inl (cI, 4, .inl (k4i j0 j1 j2 j3))), (mS, .inl (cI, 4, .inl (k4i s0 s1 s2 x_25))), (mD, .inl (cL, 256, .inr (.inl fD)))] := hD
                    exact J230 x_21 x_25 (by first | with_reducible assumption | ((try simp only [jT_, jP_, jD_, jC_, jB_, jW_, Int32.reduceToInt, Int64.reduceToInt, true_or, or_true, true_and, and_true]) <;> omega)) _ _ (hP.sub [0, 1, 2, 3, 4, 5] rfl) (hD.sub [0, 1, 2, 3, 4, 5] (by decide) rfl) hS ls (lv_sub hl [0, 1, 2, 3, 4] rfl)
                  · exact absurd (by decide) c_220_23
            · exact absurd (by decide) c_144_6
          · exact absurd (by decide) c_124_4
        · exact absurd (by decide) c_114_3
      · exact absurd (by decide) c_79_2
    · exact absurd (by decide) c_16_1
  · exact absurd c_4_0 (by decide)
