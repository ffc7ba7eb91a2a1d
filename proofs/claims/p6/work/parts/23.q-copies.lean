set_option maxRecDepth 100000 in
theorem iX8_copies_X8 : ∀ w ∈ wsX80, w ∈ wsX8_copies := fun w h => (goodIn_r (big := wsX8_copies) wsX80 [43, 44, 45, 46, 47, 48, 49, 50, 51, 52, 53, 54, 55, 56, 57, 58, 59, 60, 61, 62, 63, 64, 65, 66, 67, 68, 69, 70, 71, 72, 73] rfl (by decide +kernel) w h).1
set_option maxRecDepth 100000 in
set_option maxHeartbeats 4000000 in
theorem q_copies (l : Launch) (D : va_G) (cI cL cB cZ cT : ClassId) (sz : Nat) (m0 mH mI mJ mS mD mX mA mB mW mL : Nat) (aM : Int32) (aC : Int64) (mM : Int32) (mQ : Int64) (oV pL lI sW dP sT : Int32) (aT : Int64) (cH iW iH aE mN : Int32) (sZ : Int64) (tS tA tW lS : Int32) (fH : Nat → Int32) (fI : Nat → Int64) (j0 j1 j2 j3 : Int32) (s0 s1 s2 s3 : Int32) (fD : Nat → Int64) (hpl : jP_ pL) (hdp : jD_ dP) (hch : jC_ cH) (hiw : jW_ iW cH) (ht0 : jT_ s0 j0) (ht1 : jT_ s1 j1) (ht2 : jT_ s2 j2) (ht3 : jT_ s3 j3) (had : 0 ≤ aE.toInt ∧ aE.toInt ≤ 511 ∧ (iH.toInt = 0 ∨ aE.toInt ≤ 510)) : kM (S := (Int32 × Int32 × Int32 × Int32 × (Nat → Int32) × (Nat → Int64) × (Nat → Int64) × Int32 × Int32 × Int32 × Int32 × Int32 × Int32 × Int32 × Int32)) l yX8_copies wsX8_copies ({ frames := 2, cells := 0, slots := 0, locals := 45 }) D (kT cI cL cB cZ cT) [.ref m0] [(m0, .inr (8, [.ref mH, .int aM, .long aC, .int mM, .long mQ, .int oV, .int pL, .int lI, .int sW, .int dP, .int sT, .long aT, .int cH, .int iW, .ref mI, .ref mJ, .ref mS, .ref mD, .int iH, .int aE, .int mN, .long sZ, .ref mX, .int tS, .int tA, .int tW, .ref mA, .ref mB, .ref mW, .ref mL, .int lS])), (mH, .inl (cI, 512, .inl fH)), (mI, .inl (cL, 1200, .inr (.inl fI))), (mJ, .inl (cI, 4, .inl (k4i j0 j1 j2 j3))), (mS, .inl (cI, 4, .inl (k4i s0 s1 s2 s3))), (mD, .inl (cL, 256, .inr (.inl fD)))] sz eI (fun r u => (0 ≤ r.toInt ∧ r.toInt ≤ 6) ∧ jP_ (u.1) ∧ jD_ (u.2.1) ∧ jC_ (u.2.2.1) ∧ jW_ (u.2.2.2.1) (u.2.2.1) ∧ jT_ (u.2.2.2.2.2.2.2.2.2.2.2.1) (u.2.2.2.2.2.2.2.1) ∧ jT_ (u.2.2.2.2.2.2.2.2.2.2.2.2.1) (u.2.2.2.2.2.2.2.2.1) ∧ jT_ (u.2.2.2.2.2.2.2.2.2.2.2.2.2.1) (u.2.2.2.2.2.2.2.2.2.1) ∧ jT_ (u.2.2.2.2.2.2.2.2.2.2.2.2.2.2) (u.2.2.2.2.2.2.2.2.2.2.1)) (fun u => [(m0, .inr (8, [.ref mH, .int aM, .long aC, .int mM, .long mQ, .int oV, .int u.1, .int lI, .int sW, .int u.2.1, .int sT, .long aT, .int u.2.2.1, .int u.2.2.2.1, .ref mI, .ref mJ, .ref mS, .ref mD, .int iH, .int aE, .int mN, .long sZ, .ref mX, .int tS, .int tA, .int tW, .ref mA, .ref mB, .ref mW, .ref mL, .int lS])), (mH, .inl (cI, 512, .inl u.2.2.2.2.1)), (mI, .inl (cL, 1200, .inr (.inl u.2.2.2.2.2.2.1))), (mJ, .inl (cI, 4, .inl (k4i u.2.2.2.2.2.2.2.1 u.2.2.2.2.2.2.2.2.1 u.2.2.2.2.2.2.2.2.2.1 u.2.2.2.2.2.2.2.2.2.2.1))), (mS, .inl (cI, 4, .inl (k4i u.2.2.2.2.2.2.2.2.2.2.2.1 u.2.2.2.2.2.2.2.2.2.2.2.2.1 u.2.2.2.2.2.2.2.2.2.2.2.2.2.1 u.2.2.2.2.2.2.2.2.2.2.2.2.2.2))), (mD, .inl (cL, 256, .inr (.inl u.2.2.2.2.2.1)))]) 0 0 := by
  refine kStart (cc := cX8_copies) (maxL := 6) (ret := (some .int)) (own := RX8) (by decide) rfl rfl (Nat.le_of_ble_eq_true rfl) ?_
  intro p e s m args below meth c A ls hx hb hr hml hown hts hlocks hnm hsz hA hG hP hD hS hl
  have hK := hG.1
  have hl : lv_has ls 6 [(0, .ref m0)] := hl
  have hch0 : 0 ≤ cH.toInt ∧ cH.toInt ≤ 14 := hch
  rcases ksw_0_14 cH with hsw | rfl | rfl | rfl | rfl | rfl | rfl | rfl | rfl | rfl | rfl | rfl | rfl | rfl | rfl | rfl
  · omega
  · refine lv_aload_n hx hb dX8_copies_0 rfl (lv_at hl 0 rfl) ?_
    refine va_get (D := D) (ci := 8) (v := .int 0) (C := RX8) (T := TX8) (N := 31) hx hb hts iX8_copies_X8 hown hK hP 0 rfl rfl 12 (by decide) (hts (.fieldLink RX8 43 "TapeCalculatorModel" "chosen" "I") (List.mem_of_getElem? (i := 1) rfl)) (fun _ h9 => h9) rfl dX8_copies_1 ?_
    refine lv_if_ne (tgt := 10) hx hb dX8_copies_4 (by decide) (fun c_4_0 => ?_) (fun c_4_0 => ?_)
    · exact absurd (by decide) c_4_0
    · have t_4_0 := c_4_0
      try simp only [kb_eq0, kb_ne0, lg_cmp_lt, lg_cmp_le, lg_cmp_gt, lg_cmp_ge, lg_cmp_eq] at t_4_0
      try simp only [Int32.lt_iff_toInt_lt, Int32.le_iff_toInt_le, ← Int32.toInt_inj, Int64.lt_iff_toInt_lt, Int64.le_iff_toInt_le, ← Int64.toInt_inj, Int32.toInt_toInt64, Int32.reduceToInt, Int64.reduceToInt] at t_4_0
      refine lv_bipush (v := 6) hx hb dX8_copies_7 (by decide) ?_
      refine kIret (u := (pL, dP, 0, iW, fH, fD, fI, j0, j1, j2, j3, s0, s1, s2, s3)) hx hb hr rfl hlocks hS dX8_copies_9 ?_ (hP.sub [0, 1, 2, 3, 4, 5] rfl) (hD.sub [0, 1, 2, 3, 4, 5] (by decide) rfl)
      try dsimp only
      repeat' (with_reducible apply And.intro)
      all_goals first | with_reducible assumption | ((try simp only [jT_, jP_, jD_, jC_, jB_, jW_, Int32.reduceToInt, Int64.reduceToInt, true_or, or_true, true_and, and_true]) <;> omega)
  · have hiw1 : iW.toInt = 0 := by simp only [jW_, Int32.reduceToInt] at hiw; omega
    have hu0 : 0 ≤ s0.toInt ∧ s0.toInt ≤ j0.toInt ∧ j0.toInt ≤ 300 := ht0
    have hs0 := k_sub (a := j0) (b := 1) (by omega) (by decide)
    simp only [Int32.reduceToInt] at hs0
    have hs1 := k_sub (a := s0) (b := 1) (by omega) (by decide)
    simp only [Int32.reduceToInt] at hs1
    have hs2 := k_addg (a := s0) (b := 1) (by omega) (by decide)
    have hs3 := k_addg (a := s0) (b := (-1)) (by omega) (by decide)
    simp only [Int32.reduceToInt, show (-1 : Int32).toInt = -1 from rfl] at hs2 hs3
    refine lv_aload_n hx hb dX8_copies_0 rfl (lv_at hl 0 rfl) ?_
    refine va_get (D := D) (ci := 8) (v := .int 1) (C := RX8) (T := TX8) (N := 31) hx hb hts iX8_copies_X8 hown hK hP 0 rfl rfl 12 (by decide) (hts (.fieldLink RX8 43 "TapeCalculatorModel" "chosen" "I") (List.mem_of_getElem? (i := 1) rfl)) (fun _ h9 => h9) rfl dX8_copies_1 ?_
    refine lv_if_ne (tgt := 10) hx hb dX8_copies_4 (by decide) (fun c_4_1 => ?_) (fun c_4_1 => ?_)
    · have t_4_1 := c_4_1
      try simp only [kb_eq0, kb_ne0, lg_cmp_lt, lg_cmp_le, lg_cmp_gt, lg_cmp_ge, lg_cmp_eq] at t_4_1
      try simp only [Int32.lt_iff_toInt_lt, Int32.le_iff_toInt_le, ← Int32.toInt_inj, Int64.lt_iff_toInt_lt, Int64.le_iff_toInt_le, ← Int64.toInt_inj, Int32.toInt_toInt64, Int32.reduceToInt, Int64.reduceToInt] at t_4_1
      refine lv_aload_n hx hb dX8_copies_10 rfl (lv_at hl 0 rfl) ?_
      refine va_get (D := D) (ci := 8) (v := .int 1) (C := RX8) (T := TX8) (N := 31) hx hb hts iX8_copies_X8 hown hK hP 0 rfl rfl 12 (by decide) (hts (.fieldLink RX8 43 "TapeCalculatorModel" "chosen" "I") (List.mem_of_getElem? (i := 1) rfl)) (fun _ h9 => h9) rfl dX8_copies_11 ?_
      refine lv_bipush (v := 12) hx hb dX8_copies_14 (by decide) ?_
      refine lv_icmp_le (tgt := 73) hx hb dX8_copies_16 (by decide) (fun c_16_2 => ?_) (fun c_16_2 => ?_)
      · have t_16_2 := c_16_2
        try simp only [kb_eq0, kb_ne0, lg_cmp_lt, lg_cmp_le, lg_cmp_gt, lg_cmp_ge, lg_cmp_eq] at t_16_2
        try simp only [Int32.lt_iff_toInt_lt, Int32.le_iff_toInt_le, ← Int32.toInt_inj, Int64.lt_iff_toInt_lt, Int64.le_iff_toInt_le, ← Int64.toInt_inj, Int32.toInt_toInt64, Int32.reduceToInt, Int64.reduceToInt] at t_16_2
        refine lv_aload_n hx hb dX8_copies_73 rfl (lv_at hl 0 rfl) ?_
        refine va_get (D := D) (ci := 8) (v := .int 1) (C := RX8) (T := TX8) (N := 31) hx hb hts iX8_copies_X8 hown hK hP 0 rfl rfl 12 (by decide) (hts (.fieldLink RX8 43 "TapeCalculatorModel" "chosen" "I") (List.mem_of_getElem? (i := 1) rfl)) (fun _ h9 => h9) rfl dX8_copies_74 ?_
        refine lv_bipush (v := 8) hx hb dX8_copies_77 (by decide) ?_
        refine lv_icmp_le (tgt := 109) hx hb dX8_copies_79 (by decide) (fun c_79_3 => ?_) (fun c_79_3 => ?_)
        · have t_79_3 := c_79_3
          try simp only [kb_eq0, kb_ne0, lg_cmp_lt, lg_cmp_le, lg_cmp_gt, lg_cmp_ge, lg_cmp_eq] at t_79_3
          try simp only [Int32.lt_iff_toInt_lt, Int32.le_iff_toInt_le, ← Int32.toInt_inj, Int64.lt_iff_toInt_lt, Int64.le_iff_toInt_le, ← Int64.toInt_inj, Int32.toInt_toInt64, Int32.reduceToInt, Int64.reduceToInt] at t_79_3
          refine lv_aload_n hx hb dX8_copies_109 rfl (lv_at hl 0 rfl) ?_
          refine va_get (D := D) (ci := 8) (v := .int 1) (C := RX8) (T := TX8) (N := 31) hx hb hts iX8_copies_X8 hown hK hP 0 rfl rfl 12 (by decide) (hts (.fieldLink RX8 43 "TapeCalculatorModel" "chosen" "I") (List.mem_of_getElem? (i := 1) rfl)) (fun _ h9 => h9) rfl dX8_copies_110 ?_
          refine lv_iconst (v := 4) hx hb dX8_copies_113 (by decide) ?_
          refine lv_icmp_le (tgt := 121) hx hb dX8_copies_114 (by decide) (fun c_114_4 => ?_) (fun c_114_4 => ?_)
          · have t_114_4 := c_114_4
            try simp only [kb_eq0, kb_ne0, lg_cmp_lt, lg_cmp_le, lg_cmp_gt, lg_cmp_ge, lg_cmp_eq] at t_114_4
            try simp only [Int32.lt_iff_toInt_lt, Int32.le_iff_toInt_le, ← Int32.toInt_inj, Int64.lt_iff_toInt_lt, Int64.le_iff_toInt_le, ← Int64.toInt_inj, Int32.toInt_toInt64, Int32.reduceToInt, Int64.reduceToInt] at t_114_4
            refine lv_iconst (v := 0) hx hb dX8_copies_121 (by decide) ?_
            refine lv_istore_n (lv' := [(1, .int 0), (0, .ref m0)]) hx hb dX8_copies_122 rfl hl (by decide) rfl (fun ls hl => ?_)
            refine lv_iload_n hx hb dX8_copies_123 rfl (lv_at hl 0 rfl) ?_
            refine lv_if_eq (tgt := 136) hx hb dX8_copies_124 (by decide) (fun c_124_5 => ?_) (fun c_124_5 => ?_)
            · have t_124_5 := c_124_5
              try simp only [kb_eq0, kb_ne0, lg_cmp_lt, lg_cmp_le, lg_cmp_gt, lg_cmp_ge, lg_cmp_eq] at t_124_5
              try simp only [Int32.lt_iff_toInt_lt, Int32.le_iff_toInt_le, ← Int32.toInt_inj, Int64.lt_iff_toInt_lt, Int64.le_iff_toInt_le, ← Int64.toInt_inj, Int32.toInt_toInt64, Int32.reduceToInt, Int64.reduceToInt] at t_124_5
              refine lv_aload_n hx hb dX8_copies_136 rfl (lv_at hl 1 rfl) ?_
              refine va_get (D := D) (ci := 8) (v := .int 1) (C := RX8) (T := TX8) (N := 31) hx hb hts iX8_copies_X8 hown hK hP 0 rfl rfl 12 (by decide) (hts (.fieldLink RX8 43 "TapeCalculatorModel" "chosen" "I") (List.mem_of_getElem? (i := 1) rfl)) (fun _ h9 => h9) rfl dX8_copies_137 ?_
              refine lv_iconst (v := 1) hx hb dX8_copies_140 (by decide) ?_
              refine lv_isub hx hb dX8_copies_141 ?_
              refine lv_topi (fun x_7 ex_7 => ?_)
              obtain rfl : x_7 = 0 := ex_7.trans (by decide)
              refine lv_istore_n (lv' := [(2, .int 0), (1, .int 0), (0, .ref m0)]) hx hb dX8_copies_142 rfl hl (by decide) rfl (fun ls hl => ?_)
              refine lv_iload_n hx hb dX8_copies_143 rfl (lv_at hl 1 rfl) ?_
              refine lv_if_eq (tgt := 158) hx hb dX8_copies_144 (by decide) (fun c_144_7 => ?_) (fun c_144_7 => ?_)
              · have t_144_7 := c_144_7
                try simp only [kb_eq0, kb_ne0, lg_cmp_lt, lg_cmp_le, lg_cmp_gt, lg_cmp_ge, lg_cmp_eq] at t_144_7
                try simp only [Int32.lt_iff_toInt_lt, Int32.le_iff_toInt_le, ← Int32.toInt_inj, Int64.lt_iff_toInt_lt, Int64.le_iff_toInt_le, ← Int64.toInt_inj, Int32.toInt_toInt64, Int32.reduceToInt, Int64.reduceToInt] at t_144_7
                refine lv_aload_n hx hb dX8_copies_158 rfl (lv_at hl 2 rfl) ?_
                refine va_get (D := D) (ci := 8) (v := .ref mS) (C := RX8) (T := TX8) (N := 31) hx hb hts iX8_copies_X8 hown hK hP 0 rfl rfl 16 (by decide) (hts (.fieldLink RX8 20 "TapeCalculatorModel" "stands" "[I") (List.mem_of_getElem? (i := 5) rfl)) (fun _ h9 => h9) rfl dX8_copies_159 ?_
                refine lv_iload_n hx hb dX8_copies_162 rfl (lv_at hl 0 rfl) ?_
                refine va_iald hx hb hK hP 4 0 rfl rfl (vp_in_iff.mpr (by decide)) dX8_copies_163 ?_
                refine lv_topi (fun x_9 ex_9 => ?_)
                obtain rfl : s0 = x_9 := ex_9.symm
                refine lv_istore_n (lv' := [(3, .int s0), (2, .int 0), (1, .int 0), (0, .ref m0)]) hx hb dX8_copies_164 rfl hl (by decide) rfl (fun ls hl => ?_)
                have J230 : ∀ (vv : Int64) (st : Int32), jT_ st j0 → ∀ (H : Heap) (locs : List Loc), va_P D vwCl [(m0, .inr (8, [.ref mH, .int aM, .long aC, .int mM, .long mQ, .int oV, .int pL, .int lI, .int sW, .int dP, .int sT, .long aT, .int 1, .int iW, .ref mI, .ref mJ, .ref mS, .ref mD, .int iH, .int aE, .int mN, .long sZ, .ref mX, .int tS, .int tA, .int tW, .ref mA, .ref mB, .ref mW, .ref mL, .int lS])), (mH, .inl (cI, 512, .inl fH)), (mI, .inl (cL, 1200, .inr (.inl fI))), (mJ, .inl (cI, 4, .inl (k4i j0 j1 j2 j3))), (mS, .inl (cI, 4, .inl (k4i st s1 s2 s3))), (mD, .inl (cL, 256, .inr (.inl fD)))] H → va_D A [(m0, .inr (8, [.ref mH, .int aM, .long aC, .int mM, .long mQ, .int oV, .int pL, .int lI, .int sW, .int dP, .int sT, .long aT, .int 1, .int iW, .ref mI, .ref mJ, .ref mS, .ref mD, .int iH, .int aE, .int mN, .long sZ, .ref mX, .int tS, .int tA, .int tW, .ref mA, .ref mB, .ref mW, .ref mL, .int lS])), (mH, .inl (cI, 512, .inl fH)), (mI, .inl (cL, 1200, .inr (.inl fI))), (mJ, .inl (cI, 4, .inl (k4i j0 j1 j2 j3))), (mS, .inl (cI, 4, .inl (k4i st s1 s2 s3))), (mD, .inl (cL, 256, .inr (.inl fD)))] → va_S A s.heap H locs → ∀ ls : Array Slot, lv_has ls 6 [(4, .long vv), (3, .int s0), (2, .int 0), (1, .int 0), (0, .ref m0)] → W p l e ({ frames := 2, cells := 0, slots := 0, locals := 45 }) s m args below meth c H locs 0 0 (MQ below (kQ (S := (Int32 × Int32 × Int32 × Int32 × (Nat → Int32) × (Nat → Int64) × (Nat → Int64) × Int32 × Int32 × Int32 × Int32 × Int32 × Int32 × Int32 × Int32)) eI (fun r u => (0 ≤ r.toInt ∧ r.toInt ≤ 6) ∧ jP_ (u.1) ∧ jD_ (u.2.1) ∧ jC_ (u.2.2.1) ∧ jW_ (u.2.2.2.1) (u.2.2.1) ∧ jT_ (u.2.2.2.2.2.2.2.2.2.2.2.1) (u.2.2.2.2.2.2.2.1) ∧ jT_ (u.2.2.2.2.2.2.2.2.2.2.2.2.1) (u.2.2.2.2.2.2.2.2.1) ∧ jT_ (u.2.2.2.2.2.2.2.2.2.2.2.2.2.1) (u.2.2.2.2.2.2.2.2.2.1) ∧ jT_ (u.2.2.2.2.2.2.2.2.2.2.2.2.2.2) (u.2.2.2.2.2.2.2.2.2.2.1)) D (fun u => [(m0, .inr (8, [.ref mH, .int aM, .long aC, .int mM, .long mQ, .int oV, .int u.1, .int lI, .int sW, .int u.2.1, .int sT, .long aT, .int u.2.2.1, .int u.2.2.2.1, .ref mI, .ref mJ, .ref mS, .ref mD, .int iH, .int aE, .int mN, .long sZ, .ref mX, .int tS, .int tA, .int tW, .ref mA, .ref mB, .ref mW, .ref mL, .int lS])), (mH, .inl (cI, 512, .inl u.2.2.2.2.1)), (mI, .inl (cL, 1200, .inr (.inl u.2.2.2.2.2.2.1))), (mJ, .inl (cI, 4, .inl (k4i u.2.2.2.2.2.2.2.1 u.2.2.2.2.2.2.2.2.1 u.2.2.2.2.2.2.2.2.2.1 u.2.2.2.2.2.2.2.2.2.2.1))), (mS, .inl (cI, 4, .inl (k4i u.2.2.2.2.2.2.2.2.2.2.2.1 u.2.2.2.2.2.2.2.2.2.2.2.2.1 u.2.2.2.2.2.2.2.2.2.2.2.2.2.1 u.2.2.2.2.2.2.2.2.2.2.2.2.2.2))), (mD, .inl (cL, 256, .inr (.inl u.2.2.2.2.2.1)))]) A) args s 0 0 A) (F0 m 230 ls []) := by
                  intro vv st hst H locs hP hD hS ls hl
                  refine lv_lload hx hb dX8_copies_230 (lv_at hl 0 rfl) ?_
                  refine lv_lconst (v := 0) hx hb dX8_copies_232 (by decide) ?_
                  refine W.lcmp hx hb dX8_copies_233 ?_
                  refine lv_if_lt (tgt := 246) hx hb dX8_copies_234 (by decide) (fun c_234_9 => ?_) (fun c_234_9 => ?_)
                  · have t_234_9 := c_234_9
                    try simp only [kb_eq0, kb_ne0, lg_cmp_lt, lg_cmp_le, lg_cmp_gt, lg_cmp_ge, lg_cmp_eq] at t_234_9
                    try simp only [Int32.lt_iff_toInt_lt, Int32.le_iff_toInt_le, ← Int32.toInt_inj, Int64.lt_iff_toInt_lt, Int64.le_iff_toInt_le, ← Int64.toInt_inj, Int32.toInt_toInt64, Int32.reduceToInt, Int64.reduceToInt] at t_234_9
                    refine lv_aload_n hx hb dX8_copies_246 rfl (lv_at hl 4 rfl) ?_
                    refine lv_iconst (v := 0) hx hb dX8_copies_247 (by decide) ?_
                    refine va_put (D := D) (ci := 8) (v := .int 0) (ty := .int) (C := RX8) (T := TX8) (N := 31) hx hb hts iX8_copies_X8 tyX8 tyX8_ok nmX8 hown hK hP hD hS 0 rfl rfl 12 (by decide) (hts (.fieldLink RX8 43 "TapeCalculatorModel" "chosen" "I") (List.mem_of_getElem? (i := 1) rfl)) (fun _ h9 => h9) rfl (by decide +kernel) rfl rfl (Nat.le_of_ble_eq_true rfl) dX8_copies_248 (fun H locs hP hD hS => ?_)
                    have hP : va_P D vwCl [(m0, .inr (8, [.ref mH, .int aM, .long aC, .int mM, .long mQ, .int oV, .int pL, .int lI, .int sW, .int dP, .int sT, .long aT, .int 0, .int iW, .ref mI, .ref mJ, .ref mS, .ref mD, .int iH, .int aE, .int mN, .long sZ, .ref mX, .int tS, .int tA, .int tW, .ref mA, .ref mB, .ref mW, .ref mL, .int lS])), (mH, .inl (cI, 512, .inl fH)), (mI, .inl (cL, 1200, .inr (.inl fI))), (mJ, .inl (cI, 4, .inl (k4i j0 j1 j2 j3))), (mS, .inl (cI, 4, .inl (k4i st s1 s2 s3))), (mD, .inl (cL, 256, .inr (.inl fD)))] H := hP
                    have hD : va_D A [(m0, .inr (8, [.ref mH, .int aM, .long aC, .int mM, .long mQ, .int oV, .int pL, .int lI, .int sW, .int dP, .int sT, .long aT, .int 0, .int iW, .ref mI, .ref mJ, .ref mS, .ref mD, .int iH, .int aE, .int mN, .long sZ, .ref mX, .int tS, .int tA, .int tW, .ref mA, .ref mB, .ref mW, .ref mL, .int lS])), (mH, .inl (cI, 512, .inl fH)), (mI, .inl (cL, 1200, .inr (.inl fI))), (mJ, .inl (cI, 4, .inl (k4i j0 j1 j2 j3))), (mS, .inl (cI, 4, .inl (k4i st s1 s2 s3))), (mD, .inl (cL, 256, .inr (.inl fD)))] := hD
                    refine lv_aload_n hx hb dX8_copies_251 rfl (lv_at hl 4 rfl) ?_
                    refine lv_lload hx hb dX8_copies_252 (lv_at hl 0 rfl) ?_
                    refine lv_ldc2 (v := (-2)) hx hb hown (hts (.constantLong RX8 111 (-2)) (List.mem_of_getElem? (i := 9) rfl)) dX8_copies_254 ?_
                    refine W.lcmp hx hb dX8_copies_257 ?_
                    refine lv_if_ne (tgt := 265) hx hb dX8_copies_258 (by decide) (fun c_258_10 => ?_) (fun c_258_10 => ?_)
                    · have t_258_10 := c_258_10
                      try simp only [kb_eq0, kb_ne0, lg_cmp_lt, lg_cmp_le, lg_cmp_gt, lg_cmp_ge, lg_cmp_eq] at t_258_10
                      try simp only [Int32.lt_iff_toInt_lt, Int32.le_iff_toInt_le, ← Int32.toInt_inj, Int64.lt_iff_toInt_lt, Int64.le_iff_toInt_le, ← Int64.toInt_inj, Int32.toInt_toInt64, Int32.reduceToInt, Int64.reduceToInt] at t_258_10
                      refine lv_iconst (v := 1) hx hb dX8_copies_265 (by decide) ?_
                      refine kCallVd (wr := [(mH, .inl (cI, 512, .inl fH)), (mI, .inl (cL, 1200, .inr (.inl fI))), (mJ, .inl (cI, 4, .inl (k4i j0 j1 j2 j3))), (mS, .inl (cI, 4, .inl (k4i st s1 s2 s3))), (mD, .inl (cL, 256, .inr (.inl fD)))]) (va_runV (As := [.int 1]) (rest := []) ⟨hx, hb, hml, hown, hts⟩ (q_go l D cI cL cB cZ cT _ m0 mH mI mJ mS mD mX mA mB mW mL aM aC mM mQ oV pL lI sW dP sT aT 0 iW iH aE mN sZ tS tA tW lS 1) (cwV 1 hts gX8_copies_X8_go rfl rfl rfl (by decide +kernel) ⟨Nat.le_of_ble_eq_true rfl, Nat.le_of_ble_eq_true rfl⟩) (kPreV hG hP hD [0] rfl (by decide) 0 8 rfl rfl rfl) rfl rfl hl.1 rfl (lv_room (Nat.le_of_ble_eq_true rfl)) dX8_copies_266 ⟨Nat.le_of_ble_eq_true rfl, Nat.le_of_ble_eq_true rfl⟩) hA hP hD hS [0] [1, 2, 3, 4, 5] rfl rfl (by decide) (by decide) (fun _ u_r_12 H locs wr_12 hP hD hS => ?_)
                      have hP : va_P D vwCl [(mH, .inl (cI, 512, .inl fH)), (mI, .inl (cL, 1200, .inr (.inl fI))), (mJ, .inl (cI, 4, .inl (k4i j0 j1 j2 j3))), (mS, .inl (cI, 4, .inl (k4i st s1 s2 s3))), (mD, .inl (cL, 256, .inr (.inl fD))), (m0, .inr (8, [.ref mH, .int aM, .long aC, .int mM, .long mQ, .int oV, .int u_r_12, .int lI, .int sW, .int dP, .int sT, .long aT, .int 0, .int iW, .ref mI, .ref mJ, .ref mS, .ref mD, .int iH, .int aE, .int mN, .long sZ, .ref mX, .int tS, .int tA, .int tW, .ref mA, .ref mB, .ref mW, .ref mL, .int lS]))] H := hP
                      have hD : va_D A [(mH, .inl (cI, 512, .inl fH)), (mI, .inl (cL, 1200, .inr (.inl fI))), (mJ, .inl (cI, 4, .inl (k4i j0 j1 j2 j3))), (mS, .inl (cI, 4, .inl (k4i st s1 s2 s3))), (mD, .inl (cL, 256, .inr (.inl fD))), (m0, .inr (8, [.ref mH, .int aM, .long aC, .int mM, .long mQ, .int oV, .int u_r_12, .int lI, .int sW, .int dP, .int sT, .long aT, .int 0, .int iW, .ref mI, .ref mJ, .ref mS, .ref mD, .int iH, .int aE, .int mN, .long sZ, .ref mX, .int tS, .int tA, .int tW, .ref mA, .ref mB, .ref mW, .ref mL, .int lS]))] := hD
                      try dsimp only at wr_12
                      try simp only [Int32.reduceToInt, Int64.reduceToInt] at wr_12
                      refine lv_iconst (v := 0) hx hb dX8_copies_269 (by decide) ?_
                      refine kIret (u := (u_r_12, dP, 0, iW, fH, fD, fI, j0, j1, j2, j3, st, s1, s2, s3)) hx hb hr rfl hlocks hS dX8_copies_270 ?_ (hP.sub [5, 0, 1, 2, 3, 4] rfl) (hD.sub [5, 0, 1, 2, 3, 4] (by decide) rfl)
                      try dsimp only
                      repeat' (with_reducible apply And.intro)
                      all_goals first | with_reducible assumption | ((try simp only [jT_, jP_, jD_, jC_, jB_, jW_, Int32.reduceToInt, Int64.reduceToInt, true_or, or_true, true_and, and_true]) <;> omega)
                    · have t_258_10 := c_258_10
                      try simp only [kb_eq0, kb_ne0, lg_cmp_lt, lg_cmp_le, lg_cmp_gt, lg_cmp_ge, lg_cmp_eq] at t_258_10
                      try simp only [Int32.lt_iff_toInt_lt, Int32.le_iff_toInt_le, ← Int32.toInt_inj, Int64.lt_iff_toInt_lt, Int64.le_iff_toInt_le, ← Int64.toInt_inj, Int32.toInt_toInt64, Int32.reduceToInt, Int64.reduceToInt] at t_258_10
                      refine lv_iconst (v := 2) hx hb dX8_copies_261 (by decide) ?_
                      refine lv_goto (tgt := 266) hx hb dX8_copies_262 (by decide) ?_
                      refine kCallVd (wr := [(mH, .inl (cI, 512, .inl fH)), (mI, .inl (cL, 1200, .inr (.inl fI))), (mJ, .inl (cI, 4, .inl (k4i j0 j1 j2 j3))), (mS, .inl (cI, 4, .inl (k4i st s1 s2 s3))), (mD, .inl (cL, 256, .inr (.inl fD)))]) (va_runV (As := [.int 2]) (rest := []) ⟨hx, hb, hml, hown, hts⟩ (q_go l D cI cL cB cZ cT _ m0 mH mI mJ mS mD mX mA mB mW mL aM aC mM mQ oV pL lI sW dP sT aT 0 iW iH aE mN sZ tS tA tW lS 2) (cwV 1 hts gX8_copies_X8_go rfl rfl rfl (by decide +kernel) ⟨Nat.le_of_ble_eq_true rfl, Nat.le_of_ble_eq_true rfl⟩) (kPreV hG hP hD [0] rfl (by decide) 0 8 rfl rfl rfl) rfl rfl hl.1 rfl (lv_room (Nat.le_of_ble_eq_true rfl)) dX8_copies_266 ⟨Nat.le_of_ble_eq_true rfl, Nat.le_of_ble_eq_true rfl⟩) hA hP hD hS [0] [1, 2, 3, 4, 5] rfl rfl (by decide) (by decide) (fun _ u_r_13 H locs wr_13 hP hD hS => ?_)
                      have hP : va_P D vwCl [(mH, .inl (cI, 512, .inl fH)), (mI, .inl (cL, 1200, .inr (.inl fI))), (mJ, .inl (cI, 4, .inl (k4i j0 j1 j2 j3))), (mS, .inl (cI, 4, .inl (k4i st s1 s2 s3))), (mD, .inl (cL, 256, .inr (.inl fD))), (m0, .inr (8, [.ref mH, .int aM, .long aC, .int mM, .long mQ, .int oV, .int u_r_13, .int lI, .int sW, .int dP, .int sT, .long aT, .int 0, .int iW, .ref mI, .ref mJ, .ref mS, .ref mD, .int iH, .int aE, .int mN, .long sZ, .ref mX, .int tS, .int tA, .int tW, .ref mA, .ref mB, .ref mW, .ref mL, .int lS]))] H := hP
                      have hD : va_D A [(mH, .inl (cI, 512, .inl fH)), (mI, .inl (cL, 1200, .inr (.inl fI))), (mJ, .inl (cI, 4, .inl (k4i j0 j1 j2 j3))), (mS, .inl (cI, 4, .inl (k4i st s1 s2 s3))), (mD, .inl (cL, 256, .inr (.inl fD))), (m0, .inr (8, [.ref mH, .int aM, .long aC, .int mM, .long mQ, .int oV, .int u_r_13, .int lI, .int sW, .int dP, .int sT, .long aT, .int 0, .int iW, .ref mI, .ref mJ, .ref mS, .ref mD, .int iH, .int aE, .int mN, .long sZ, .ref mX, .int tS, .int tA, .int tW, .ref mA, .ref mB, .ref mW, .ref mL, .int lS]))] := hD
                      try dsimp only at wr_13
                      try simp only [Int32.reduceToInt, Int64.reduceToInt] at wr_13
                      refine lv_iconst (v := 0) hx hb dX8_copies_269 (by decide) ?_
                      refine kIret (u := (u_r_13, dP, 0, iW, fH, fD, fI, j0, j1, j2, j3, st, s1, s2, s3)) hx hb hr rfl hlocks hS dX8_copies_270 ?_ (hP.sub [5, 0, 1, 2, 3, 4] rfl) (hD.sub [5, 0, 1, 2, 3, 4] (by decide) rfl)
                      try dsimp only
                      repeat' (with_reducible apply And.intro)
                      all_goals first | with_reducible assumption | ((try simp only [jT_, jP_, jD_, jC_, jB_, jW_, Int32.reduceToInt, Int64.reduceToInt, true_or, or_true, true_and, and_true]) <;> omega)
                  · have t_234_9 := c_234_9
                    try simp only [kb_eq0, kb_ne0, lg_cmp_lt, lg_cmp_le, lg_cmp_gt, lg_cmp_ge, lg_cmp_eq] at t_234_9
                    try simp only [Int32.lt_iff_toInt_lt, Int32.le_iff_toInt_le, ← Int32.toInt_inj, Int64.lt_iff_toInt_lt, Int64.le_iff_toInt_le, ← Int64.toInt_inj, Int32.toInt_toInt64, Int32.reduceToInt, Int64.reduceToInt] at t_234_9
                    refine lv_aload_n hx hb dX8_copies_237 rfl (lv_at hl 4 rfl) ?_
                    refine lv_lload hx hb dX8_copies_238 (lv_at hl 0 rfl) ?_
                    refine kCallVd (wr := [(mI, .inl (cL, 1200, .inr (.inl fI))), (mJ, .inl (cI, 4, .inl (k4i j0 j1 j2 j3))), (mS, .inl (cI, 4, .inl (k4i st s1 s2 s3))), (mD, .inl (cL, 256, .inr (.inl fD)))]) (va_runV (As := [.long vv]) (rest := []) ⟨hx, hb, hml, hown, hts⟩ (q_store l D cI cL cB cZ cT _ m0 mH mI mJ mS mD mX mA mB mW mL aM aC mM mQ oV pL lI sW dP sT aT 1 iW iH aE mN sZ tS tA tW lS fH vv (by omega)) (cwV 1 hts gX8_copies_X8_store rfl rfl rfl (by decide +kernel) ⟨Nat.le_of_ble_eq_true rfl, Nat.le_of_ble_eq_true rfl⟩) (kPreV hG hP hD [0, 1] rfl (by decide) 0 8 rfl rfl rfl) rfl rfl hl.1 rfl (lv_room (Nat.le_of_ble_eq_true rfl)) dX8_copies_240 ⟨Nat.le_of_ble_eq_true rfl, Nat.le_of_ble_eq_true rfl⟩) hA hP hD hS [0, 1] [2, 3, 4, 5] rfl rfl (by decide) (by decide) (fun _ u_r_14 H locs wr_14 hP hD hS => ?_)
                    have hP : va_P D vwCl [(mI, .inl (cL, 1200, .inr (.inl fI))), (mJ, .inl (cI, 4, .inl (k4i j0 j1 j2 j3))), (mS, .inl (cI, 4, .inl (k4i st s1 s2 s3))), (mD, .inl (cL, 256, .inr (.inl fD))), (m0, .inr (8, [.ref mH, .int aM, .long aC, .int mM, .long mQ, .int oV, .int pL, .int lI, .int sW, .int dP, .int sT, .long aT, .int 1, .int iW, .ref mI, .ref mJ, .ref mS, .ref mD, .int iH, .int aE, .int mN, .long sZ, .ref mX, .int tS, .int tA, .int tW, .ref mA, .ref mB, .ref mW, .ref mL, .int lS])), (mH, .inl (cI, 512, .inl u_r_14))] H := hP
                    have hD : va_D A [(mI, .inl (cL, 1200, .inr (.inl fI))), (mJ, .inl (cI, 4, .inl (k4i j0 j1 j2 j3))), (mS, .inl (cI, 4, .inl (k4i st s1 s2 s3))), (mD, .inl (cL, 256, .inr (.inl fD))), (m0, .inr (8, [.ref mH, .int aM, .long aC, .int mM, .long mQ, .int oV, .int pL, .int lI, .int sW, .int dP, .int sT, .long aT, .int 1, .int iW, .ref mI, .ref mJ, .ref mS, .ref mD, .int iH, .int aE, .int mN, .long sZ, .ref mX, .int tS, .int tA, .int tW, .ref mA, .ref mB, .ref mW, .ref mL, .int lS])), (mH, .inl (cI, 512, .inl u_r_14))] := hD
                    try dsimp only at wr_14
                    try simp only [Int32.reduceToInt, Int64.reduceToInt] at wr_14
                    refine lv_goto (tgt := 269) hx hb dX8_copies_243 (by decide) ?_
                    refine lv_iconst (v := 0) hx hb dX8_copies_269 (by decide) ?_
                    refine kIret (u := (pL, dP, 1, iW, u_r_14, fD, fI, j0, j1, j2, j3, st, s1, s2, s3)) hx hb hr rfl hlocks hS dX8_copies_270 ?_ (hP.sub [4, 5, 0, 1, 2, 3] rfl) (hD.sub [4, 5, 0, 1, 2, 3] (by decide) rfl)
                    try dsimp only
                    repeat' (with_reducible apply And.intro)
                    all_goals first | with_reducible assumption | ((try simp only [jT_, jP_, jD_, jC_, jB_, jW_, Int32.reduceToInt, Int64.reduceToInt, true_or, or_true, true_and, and_true]) <;> omega)
                refine lv_iload_n hx hb dX8_copies_165 rfl (lv_at hl 0 rfl) ?_
                refine lv_i2l hx hb dX8_copies_166 rfl ?_
                refine lv_lconst (v := 0) hx hb dX8_copies_167 (by decide) ?_
                refine lv_aload_n hx hb dX8_copies_168 rfl (lv_at hl 3 rfl) ?_
                refine va_get (D := D) (ci := 8) (v := .ref mJ) (C := RX8) (T := TX8) (N := 31) hx hb hts iX8_copies_X8 hown hK hP 0 rfl rfl 15 (by decide) (hts (.fieldLink RX8 17 "TapeCalculatorModel" "items" "[I") (List.mem_of_getElem? (i := 6) rfl)) (fun _ h9 => h9) rfl dX8_copies_169 ?_
                refine lv_iload_n hx hb dX8_copies_172 rfl (lv_at hl 1 rfl) ?_
                refine va_iald hx hb hK hP 3 0 rfl rfl (vp_in_iff.mpr (by decide)) dX8_copies_173 ?_
                refine lv_topi (fun x_15 ex_15 => ?_)
                obtain rfl : j0 = x_15 := ex_15.symm
                refine lv_iconst (v := 1) hx hb dX8_copies_174 (by decide) ?_
                refine lv_isub hx hb dX8_copies_175 ?_
                refine lv_i2l hx hb dX8_copies_176 rfl ?_
                refine kCallI (wr := [(m0, .inr (8, [.ref mH, .int aM, .long aC, .int mM, .long mQ, .int oV, .int pL, .int lI, .int sW, .int dP, .int sT, .long aT, .int 1, .int iW, .ref mI, .ref mJ, .ref mS, .ref mD, .int iH, .int aE, .int mN, .long sZ, .ref mX, .int tS, .int tA, .int tW, .ref mA, .ref mB, .ref mW, .ref mL, .int lS])), (mH, .inl (cI, 512, .inl fH)), (mI, .inl (cL, 1200, .inr (.inl fI))), (mJ, .inl (cI, 4, .inl (k4i j0 j1 j2 j3))), (mS, .inl (cI, 4, .inl (k4i s0 s1 s2 s3))), (mD, .inl (cL, 256, .inr (.inl fD)))]) (va_runS (As := [.long s0.toInt64, .long 0, .long (j0 - 1).toInt64]) (rest := []) ⟨hx, hb, hml, hown, hts⟩ (q_in l D cI cL cB cZ cT _ (s0.toInt64) 0 (j0 - 1).toInt64) (va_cwS 3 hts gX8_copies_X8_in rfl rfl rfl (by decide +kernel) ⟨Nat.le_of_ble_eq_true rfl, Nat.le_of_ble_eq_true rfl⟩) (kPreS hG hP hD [] rfl (by decide)) rfl rfl hl.1 rfl (lv_room (Nat.le_of_ble_eq_true rfl)) dX8_copies_177 ⟨Nat.le_of_ble_eq_true rfl, Nat.le_of_ble_eq_true rfl⟩) hA hP hD hS [] [0, 1, 2, 3, 4, 5] rfl rfl (by decide) (by decide) (fun r_16 u_r_16 H locs wr_16 hP hD hS => ?_)
                have hP : va_P D vwCl [(m0, .inr (8, [.ref mH, .int aM, .long aC, .int mM, .long mQ, .int oV, .int pL, .int lI, .int sW, .int dP, .int sT, .long aT, .int 1, .int iW, .ref mI, .ref mJ, .ref mS, .ref mD, .int iH, .int aE, .int mN, .long sZ, .ref mX, .int tS, .int tA, .int tW, .ref mA, .ref mB, .ref mW, .ref mL, .int lS])), (mH, .inl (cI, 512, .inl fH)), (mI, .inl (cL, 1200, .inr (.inl fI))), (mJ, .inl (cI, 4, .inl (k4i j0 j1 j2 j3))), (mS, .inl (cI, 4, .inl (k4i s0 s1 s2 s3))), (mD, .inl (cL, 256, .inr (.inl fD)))] H := hP
                have hD : va_D A [(m0, .inr (8, [.ref mH, .int aM, .long aC, .int mM, .long mQ, .int oV, .int pL, .int lI, .int sW, .int dP, .int sT, .long aT, .int 1, .int iW, .ref mI, .ref mJ, .ref mS, .ref mD, .int iH, .int aE, .int mN, .long sZ, .ref mX, .int tS, .int tA, .int tW, .ref mA, .ref mB, .ref mW, .ref mL, .int lS])), (mH, .inl (cI, 512, .inl fH)), (mI, .inl (cL, 1200, .inr (.inl fI))), (mJ, .inl (cI, 4, .inl (k4i j0 j1 j2 j3))), (mS, .inl (cI, 4, .inl (k4i s0 s1 s2 s3))), (mD, .inl (cL, 256, .inr (.inl fD)))] := hD
                try dsimp only at wr_16
                subst wr_16
                refine lv_if_eq (tgt := 198) hx hb dX8_copies_180 (by decide) (fun c_180_16 => ?_) (fun c_180_16 => ?_)
                · have t_180_16 := c_180_16
                  try simp only [kb_eq0, kb_ne0, lg_cmp_lt, lg_cmp_le, lg_cmp_gt, lg_cmp_ge, lg_cmp_eq] at t_180_16
                  try simp only [Int32.lt_iff_toInt_lt, Int32.le_iff_toInt_le, ← Int32.toInt_inj, Int64.lt_iff_toInt_lt, Int64.le_iff_toInt_le, ← Int64.toInt_inj, Int32.toInt_toInt64, Int32.reduceToInt, Int64.reduceToInt] at t_180_16
                  refine lv_ldc2 (v := (-9)) hx hb hown (hts (.constantLong RX8 107 (-9)) (List.mem_of_getElem? (i := 8) rfl)) dX8_copies_198 ?_
                  refine lv_lstore (lv' := [(4, .long (-9)), (3, .int s0), (2, .int 0), (1, .int 0), (0, .ref m0)]) hx hb dX8_copies_201 hl (by decide) rfl (fun ls hl => ?_)
                  refine lv_lload hx hb dX8_copies_203 (lv_at hl 0 rfl) ?_
                  refine lv_ldc2 (v := (-9)) hx hb hown (hts (.constantLong RX8 107 (-9)) (List.mem_of_getElem? (i := 8) rfl)) dX8_copies_205 ?_
                  refine W.lcmp hx hb dX8_copies_208 ?_
                  refine lv_topi (fun x_18 ex_18 => ?_)
                  obtain rfl : x_18 = 0 := ex_18.trans (by decide)
                  refine lv_if_eq (tgt := 230) hx hb dX8_copies_209 (by decide) (fun c_209_18 => ?_) (fun c_209_18 => ?_)
                  · have t_209_18 := c_209_18
                    try simp only [kb_eq0, kb_ne0, lg_cmp_lt, lg_cmp_le, lg_cmp_gt, lg_cmp_ge, lg_cmp_eq] at t_209_18
                    try simp only [Int32.lt_iff_toInt_lt, Int32.le_iff_toInt_le, ← Int32.toInt_inj, Int64.lt_iff_toInt_lt, Int64.le_iff_toInt_le, ← Int64.toInt_inj, Int32.toInt_toInt64, Int32.reduceToInt, Int64.reduceToInt] at t_209_18
                    exact J230 (-9) s0 (by first | with_reducible assumption | ((try simp only [jT_, jP_, jD_, jC_, jB_, jW_, Int32.reduceToInt, Int64.reduceToInt, true_or, or_true, true_and, and_true]) <;> omega)) _ _ (hP.sub [0, 1, 2, 3, 4, 5] rfl) (hD.sub [0, 1, 2, 3, 4, 5] (by decide) rfl) hS ls (lv_sub hl [0, 1, 2, 3, 4] rfl)
                  · exact absurd (by decide) c_209_18
                · have t_180_16 := c_180_16
                  try simp only [kb_eq0, kb_ne0, lg_cmp_lt, lg_cmp_le, lg_cmp_gt, lg_cmp_ge, lg_cmp_eq] at t_180_16
                  try simp only [Int32.lt_iff_toInt_lt, Int32.le_iff_toInt_le, ← Int32.toInt_inj, Int64.lt_iff_toInt_lt, Int64.le_iff_toInt_le, ← Int64.toInt_inj, Int32.toInt_toInt64, Int32.reduceToInt, Int64.reduceToInt] at t_180_16
                  refine lv_aload_n hx hb dX8_copies_183 rfl (lv_at hl 3 rfl) ?_
                  refine va_get (D := D) (ci := 8) (v := .ref mI) (C := RX8) (T := TX8) (N := 31) hx hb hts iX8_copies_X8 hown hK hP 0 rfl rfl 14 (by decide) (hts (.fieldLink RX8 13 "TapeCalculatorModel" "item" "[J") (List.mem_of_getElem? (i := 7) rfl)) (fun _ h9 => h9) rfl dX8_copies_184 ?_
                  refine lv_sipush (v := 300) hx hb dX8_copies_187 (by decide) ?_
                  refine lv_iload_n hx hb dX8_copies_190 rfl (lv_at hl 1 rfl) ?_
                  refine lv_imul hx hb dX8_copies_191 ?_
                  refine lv_topi (fun x_20 ex_20 => ?_)
                  obtain rfl : x_20 = 0 := ex_20.trans (by decide)
                  refine lv_iload_n hx hb dX8_copies_192 rfl (lv_at hl 0 rfl) ?_
                  refine lv_iadd hx hb dX8_copies_193 ?_
                  refine va_lald hx hb hK hP 2 1 rfl rfl (vp_in_iff.mpr (by have hx9 := k_addg (a := 0) (b := s0) (by decide) (by omega); simp only [Int32.reduceToInt] at hx9; omega)) dX8_copies_194 ?_
                  refine lv_goto (tgt := 201) hx hb dX8_copies_195 (by decide) ?_
                  refine lv_topl (fun x_21 ex_21 => ?_)
                  refine lv_lstore (lv' := [(4, .long x_21), (3, .int s0), (2, .int 0), (1, .int 0), (0, .ref m0)]) hx hb dX8_copies_201 hl (by decide) rfl (fun ls hl => ?_)
                  refine lv_lload hx hb dX8_copies_203 (lv_at hl 0 rfl) ?_
                  refine lv_ldc2 (v := (-9)) hx hb hown (hts (.constantLong RX8 107 (-9)) (List.mem_of_getElem? (i := 8) rfl)) dX8_copies_205 ?_
                  refine W.lcmp hx hb dX8_copies_208 ?_
                  refine lv_if_eq (tgt := 230) hx hb dX8_copies_209 (by decide) (fun c_209_21 => ?_) (fun c_209_21 => ?_)
                  · have t_209_21 := c_209_21
                    try simp only [kb_eq0, kb_ne0, lg_cmp_lt, lg_cmp_le, lg_cmp_gt, lg_cmp_ge, lg_cmp_eq] at t_209_21
                    try simp only [Int32.lt_iff_toInt_lt, Int32.le_iff_toInt_le, ← Int32.toInt_inj, Int64.lt_iff_toInt_lt, Int64.le_iff_toInt_le, ← Int64.toInt_inj, Int32.toInt_toInt64, Int32.reduceToInt, Int64.reduceToInt] at t_209_21
                    exact J230 x_21 s0 (by first | with_reducible assumption | ((try simp only [jT_, jP_, jD_, jC_, jB_, jW_, Int32.reduceToInt, Int64.reduceToInt, true_or, or_true, true_and, and_true]) <;> omega)) _ _ (hP.sub [0, 1, 2, 3, 4, 5] rfl) (hD.sub [0, 1, 2, 3, 4, 5] (by decide) rfl) hS ls (lv_sub hl [0, 1, 2, 3, 4] rfl)
                  · have t_209_21 := c_209_21
                    try simp only [kb_eq0, kb_ne0, lg_cmp_lt, lg_cmp_le, lg_cmp_gt, lg_cmp_ge, lg_cmp_eq] at t_209_21
                    try simp only [Int32.lt_iff_toInt_lt, Int32.le_iff_toInt_le, ← Int32.toInt_inj, Int64.lt_iff_toInt_lt, Int64.le_iff_toInt_le, ← Int64.toInt_inj, Int32.toInt_toInt64, Int32.reduceToInt, Int64.reduceToInt] at t_209_21
                    refine lv_aload_n hx hb dX8_copies_212 rfl (lv_at hl 4 rfl) ?_
                    refine va_get (D := D) (ci := 8) (v := .ref mS) (C := RX8) (T := TX8) (N := 31) hx hb hts iX8_copies_X8 hown hK hP 0 rfl rfl 16 (by decide) (hts (.fieldLink RX8 20 "TapeCalculatorModel" "stands" "[I") (List.mem_of_getElem? (i := 5) rfl)) (fun _ h9 => h9) rfl dX8_copies_213 ?_
                    refine lv_iload_n hx hb dX8_copies_216 rfl (lv_at hl 2 rfl) ?_
                    refine lv_dup2_11 hx hb dX8_copies_217 rfl rfl ?_
                    refine va_iald hx hb hK hP 4 0 rfl rfl (vp_in_iff.mpr (by decide)) dX8_copies_218 ?_
                    refine lv_topi (fun x_23 ex_23 => ?_)
                    obtain rfl : s0 = x_23 := ex_23.symm
                    refine lv_iload_n hx hb dX8_copies_219 rfl (lv_at hl 3 rfl) ?_
                    refine lv_if_eq (tgt := 227) hx hb dX8_copies_220 (by decide) (fun c_220_23 => ?_) (fun c_220_23 => ?_)
                    · have t_220_23 := c_220_23
                      try simp only [kb_eq0, kb_ne0, lg_cmp_lt, lg_cmp_le, lg_cmp_gt, lg_cmp_ge, lg_cmp_eq] at t_220_23
                      try simp only [Int32.lt_iff_toInt_lt, Int32.le_iff_toInt_le, ← Int32.toInt_inj, Int64.lt_iff_toInt_lt, Int64.le_iff_toInt_le, ← Int64.toInt_inj, Int32.toInt_toInt64, Int32.reduceToInt, Int64.reduceToInt] at t_220_23
                      refine lv_iconst (v := 1) hx hb dX8_copies_227 (by decide) ?_
                      refine lv_iadd hx hb dX8_copies_228 ?_
                      refine va_iast hx hb hK hP hD hS 4 0 rfl rfl (vp_in_iff.mpr (by decide)) dX8_copies_229 (fun H locs hP hD hS => ?_)
                      rw [k4i_0] at hP hD
                      have hP : va_P D vwCl [(m0, .inr (8, [.ref mH, .int aM, .long aC, .int mM, .long mQ, .int oV, .int pL, .int lI, .int sW, .int dP, .int sT, .long aT, .int 1, .int iW, .ref mI, .ref mJ, .ref mS, .ref mD, .int iH, .int aE, .int mN, .long sZ, .ref mX, .int tS, .int tA, .int tW, .ref mA, .ref mB, .ref mW, .ref mL, .int lS])), (mH, .inl (cI, 512, .inl fH)), (mI, .inl (cL, 1200, .inr (.inl fI))), (mJ, .inl (cI, 4, .inl (k4i j0 j1 j2 j3))), (mS, .inl (cI, 4, .inl (k4i (s0 + 1) s1 s2 s3))), (mD, .inl (cL, 256, .inr (.inl fD)))] H := hP
                      have hD : va_D A [(m0, .inr (8, [.ref mH, .int aM, .long aC, .int mM, .long mQ, .int oV, .int pL, .int lI, .int sW, .int dP, .int sT, .long aT, .int 1, .int iW, .ref mI, .ref mJ, .ref mS, .ref mD, .int iH, .int aE, .int mN, .long sZ, .ref mX, .int tS, .int tA, .int tW, .ref mA, .ref mB, .ref mW, .ref mL, .int lS])), (mH, .inl (cI, 512, .inl fH)), (mI, .inl (cL, 1200, .inr (.inl fI))), (mJ, .inl (cI, 4, .inl (k4i j0 j1 j2 j3))), (mS, .inl (cI, 4, .inl (k4i (s0 + 1) s1 s2 s3))), (mD, .inl (cL, 256, .inr (.inl fD)))] := hD
                      exact J230 x_21 (s0 + 1) (by first | with_reducible assumption | ((try simp only [jT_, jP_, jD_, jC_, jB_, jW_, Int32.reduceToInt, Int64.reduceToInt, true_or, or_true, true_and, and_true]) <;> omega)) _ _ (hP.sub [0, 1, 2, 3, 4, 5] rfl) (hD.sub [0, 1, 2, 3, 4, 5] (by decide) rfl) hS ls (lv_sub hl [0, 1, 2, 3, 4] rfl)
                    · exact absurd (by decide) c_220_23
              · exact absurd (by decide) c_144_7
            · exact absurd (by decide) c_124_5
          · exact absurd (by decide) c_114_4
        · exact absurd (by decide) c_79_3
      · exact absurd (by decide) c_16_2
    · exact absurd c_4_1 (by decide)
  · have hiw1 : iW.toInt = 0 := by simp only [jW_, Int32.reduceToInt] at hiw; omega
    have hu1 : 0 ≤ s1.toInt ∧ s1.toInt ≤ j1.toInt ∧ j1.toInt ≤ 300 := ht1
    have hs0 := k_sub (a := j1) (b := 1) (by omega) (by decide)
    simp only [Int32.reduceToInt] at hs0
    have hs1 := k_sub (a := s1) (b := 1) (by omega) (by decide)
    simp only [Int32.reduceToInt] at hs1
    have hs2 := k_addg (a := s1) (b := 1) (by omega) (by decide)
    have hs3 := k_addg (a := s1) (b := (-1)) (by omega) (by decide)
    simp only [Int32.reduceToInt, show (-1 : Int32).toInt = -1 from rfl] at hs2 hs3
    refine lv_aload_n hx hb dX8_copies_0 rfl (lv_at hl 0 rfl) ?_
    refine va_get (D := D) (ci := 8) (v := .int 2) (C := RX8) (T := TX8) (N := 31) hx hb hts iX8_copies_X8 hown hK hP 0 rfl rfl 12 (by decide) (hts (.fieldLink RX8 43 "TapeCalculatorModel" "chosen" "I") (List.mem_of_getElem? (i := 1) rfl)) (fun _ h9 => h9) rfl dX8_copies_1 ?_
    refine lv_if_ne (tgt := 10) hx hb dX8_copies_4 (by decide) (fun c_4_24 => ?_) (fun c_4_24 => ?_)
    · have t_4_24 := c_4_24
      try simp only [kb_eq0, kb_ne0, lg_cmp_lt, lg_cmp_le, lg_cmp_gt, lg_cmp_ge, lg_cmp_eq] at t_4_24
      try simp only [Int32.lt_iff_toInt_lt, Int32.le_iff_toInt_le, ← Int32.toInt_inj, Int64.lt_iff_toInt_lt, Int64.le_iff_toInt_le, ← Int64.toInt_inj, Int32.toInt_toInt64, Int32.reduceToInt, Int64.reduceToInt] at t_4_24
      refine lv_aload_n hx hb dX8_copies_10 rfl (lv_at hl 0 rfl) ?_
      refine va_get (D := D) (ci := 8) (v := .int 2) (C := RX8) (T := TX8) (N := 31) hx hb hts iX8_copies_X8 hown hK hP 0 rfl rfl 12 (by decide) (hts (.fieldLink RX8 43 "TapeCalculatorModel" "chosen" "I") (List.mem_of_getElem? (i := 1) rfl)) (fun _ h9 => h9) rfl dX8_copies_11 ?_
      refine lv_bipush (v := 12) hx hb dX8_copies_14 (by decide) ?_
      refine lv_icmp_le (tgt := 73) hx hb dX8_copies_16 (by decide) (fun c_16_25 => ?_) (fun c_16_25 => ?_)
      · have t_16_25 := c_16_25
        try simp only [kb_eq0, kb_ne0, lg_cmp_lt, lg_cmp_le, lg_cmp_gt, lg_cmp_ge, lg_cmp_eq] at t_16_25
        try simp only [Int32.lt_iff_toInt_lt, Int32.le_iff_toInt_le, ← Int32.toInt_inj, Int64.lt_iff_toInt_lt, Int64.le_iff_toInt_le, ← Int64.toInt_inj, Int32.toInt_toInt64, Int32.reduceToInt, Int64.reduceToInt] at t_16_25
        refine lv_aload_n hx hb dX8_copies_73 rfl (lv_at hl 0 rfl) ?_
        refine va_get (D := D) (ci := 8) (v := .int 2) (C := RX8) (T := TX8) (N := 31) hx hb hts iX8_copies_X8 hown hK hP 0 rfl rfl 12 (by decide) (hts (.fieldLink RX8 43 "TapeCalculatorModel" "chosen" "I") (List.mem_of_getElem? (i := 1) rfl)) (fun _ h9 => h9) rfl dX8_copies_74 ?_
        refine lv_bipush (v := 8) hx hb dX8_copies_77 (by decide) ?_
        refine lv_icmp_le (tgt := 109) hx hb dX8_copies_79 (by decide) (fun c_79_26 => ?_) (fun c_79_26 => ?_)
        · have t_79_26 := c_79_26
          try simp only [kb_eq0, kb_ne0, lg_cmp_lt, lg_cmp_le, lg_cmp_gt, lg_cmp_ge, lg_cmp_eq] at t_79_26
          try simp only [Int32.lt_iff_toInt_lt, Int32.le_iff_toInt_le, ← Int32.toInt_inj, Int64.lt_iff_toInt_lt, Int64.le_iff_toInt_le, ← Int64.toInt_inj, Int32.toInt_toInt64, Int32.reduceToInt, Int64.reduceToInt] at t_79_26
          refine lv_aload_n hx hb dX8_copies_109 rfl (lv_at hl 0 rfl) ?_
          refine va_get (D := D) (ci := 8) (v := .int 2) (C := RX8) (T := TX8) (N := 31) hx hb hts iX8_copies_X8 hown hK hP 0 rfl rfl 12 (by decide) (hts (.fieldLink RX8 43 "TapeCalculatorModel" "chosen" "I") (List.mem_of_getElem? (i := 1) rfl)) (fun _ h9 => h9) rfl dX8_copies_110 ?_
          refine lv_iconst (v := 4) hx hb dX8_copies_113 (by decide) ?_
          refine lv_icmp_le (tgt := 121) hx hb dX8_copies_114 (by decide) (fun c_114_27 => ?_) (fun c_114_27 => ?_)
          · have t_114_27 := c_114_27
            try simp only [kb_eq0, kb_ne0, lg_cmp_lt, lg_cmp_le, lg_cmp_gt, lg_cmp_ge, lg_cmp_eq] at t_114_27
            try simp only [Int32.lt_iff_toInt_lt, Int32.le_iff_toInt_le, ← Int32.toInt_inj, Int64.lt_iff_toInt_lt, Int64.le_iff_toInt_le, ← Int64.toInt_inj, Int32.toInt_toInt64, Int32.reduceToInt, Int64.reduceToInt] at t_114_27
            refine lv_iconst (v := 0) hx hb dX8_copies_121 (by decide) ?_
            refine lv_istore_n (lv' := [(1, .int 0), (0, .ref m0)]) hx hb dX8_copies_122 rfl hl (by decide) rfl (fun ls hl => ?_)
            refine lv_iload_n hx hb dX8_copies_123 rfl (lv_at hl 0 rfl) ?_
            refine lv_if_eq (tgt := 136) hx hb dX8_copies_124 (by decide) (fun c_124_28 => ?_) (fun c_124_28 => ?_)
            · have t_124_28 := c_124_28
              try simp only [kb_eq0, kb_ne0, lg_cmp_lt, lg_cmp_le, lg_cmp_gt, lg_cmp_ge, lg_cmp_eq] at t_124_28
              try simp only [Int32.lt_iff_toInt_lt, Int32.le_iff_toInt_le, ← Int32.toInt_inj, Int64.lt_iff_toInt_lt, Int64.le_iff_toInt_le, ← Int64.toInt_inj, Int32.toInt_toInt64, Int32.reduceToInt, Int64.reduceToInt] at t_124_28
              refine lv_aload_n hx hb dX8_copies_136 rfl (lv_at hl 1 rfl) ?_
              refine va_get (D := D) (ci := 8) (v := .int 2) (C := RX8) (T := TX8) (N := 31) hx hb hts iX8_copies_X8 hown hK hP 0 rfl rfl 12 (by decide) (hts (.fieldLink RX8 43 "TapeCalculatorModel" "chosen" "I") (List.mem_of_getElem? (i := 1) rfl)) (fun _ h9 => h9) rfl dX8_copies_137 ?_
              refine lv_iconst (v := 1) hx hb dX8_copies_140 (by decide) ?_
              refine lv_isub hx hb dX8_copies_141 ?_
              refine lv_topi (fun x_30 ex_30 => ?_)
              obtain rfl : x_30 = 1 := ex_30.trans (by decide)
              refine lv_istore_n (lv' := [(2, .int 1), (1, .int 0), (0, .ref m0)]) hx hb dX8_copies_142 rfl hl (by decide) rfl (fun ls hl => ?_)
              refine lv_iload_n hx hb dX8_copies_143 rfl (lv_at hl 1 rfl) ?_
              refine lv_if_eq (tgt := 158) hx hb dX8_copies_144 (by decide) (fun c_144_30 => ?_) (fun c_144_30 => ?_)
              · have t_144_30 := c_144_30
                try simp only [kb_eq0, kb_ne0, lg_cmp_lt, lg_cmp_le, lg_cmp_gt, lg_cmp_ge, lg_cmp_eq] at t_144_30
                try simp only [Int32.lt_iff_toInt_lt, Int32.le_iff_toInt_le, ← Int32.toInt_inj, Int64.lt_iff_toInt_lt, Int64.le_iff_toInt_le, ← Int64.toInt_inj, Int32.toInt_toInt64, Int32.reduceToInt, Int64.reduceToInt] at t_144_30
                refine lv_aload_n hx hb dX8_copies_158 rfl (lv_at hl 2 rfl) ?_
                refine va_get (D := D) (ci := 8) (v := .ref mS) (C := RX8) (T := TX8) (N := 31) hx hb hts iX8_copies_X8 hown hK hP 0 rfl rfl 16 (by decide) (hts (.fieldLink RX8 20 "TapeCalculatorModel" "stands" "[I") (List.mem_of_getElem? (i := 5) rfl)) (fun _ h9 => h9) rfl dX8_copies_159 ?_
                refine lv_iload_n hx hb dX8_copies_162 rfl (lv_at hl 0 rfl) ?_
                refine va_iald hx hb hK hP 4 0 rfl rfl (vp_in_iff.mpr (by decide)) dX8_copies_163 ?_
                refine lv_topi (fun x_32 ex_32 => ?_)
                obtain rfl : s1 = x_32 := ex_32.symm
                refine lv_istore_n (lv' := [(3, .int s1), (2, .int 1), (1, .int 0), (0, .ref m0)]) hx hb dX8_copies_164 rfl hl (by decide) rfl (fun ls hl => ?_)
                have J230 : ∀ (vv : Int64) (st : Int32), jT_ st j1 → ∀ (H : Heap) (locs : List Loc), va_P D vwCl [(m0, .inr (8, [.ref mH, .int aM, .long aC, .int mM, .long mQ, .int oV, .int pL, .int lI, .int sW, .int dP, .int sT, .long aT, .int 2, .int iW, .ref mI, .ref mJ, .ref mS, .ref mD, .int iH, .int aE, .int mN, .long sZ, .ref mX, .int tS, .int tA, .int tW, .ref mA, .ref mB, .ref mW, .ref mL, .int lS])), (mH, .inl (cI, 512, .inl fH)), (mI, .inl (cL, 1200, .inr (.inl fI))), (mJ, .inl (cI, 4, .inl (k4i j0 j1 j2 j3))), (mS, .inl (cI, 4, .inl (k4i s0 st s2 s3))), (mD, .inl (cL, 256, .inr (.inl fD)))] H → va_D A [(m0, .inr (8, [.ref mH, .int aM, .long aC, .int mM, .long mQ, .int oV, .int pL, .int lI, .int sW, .int dP, .int sT, .long aT, .int 2, .int iW, .ref mI, .ref mJ, .ref mS, .ref mD, .int iH, .int aE, .int mN, .long sZ, .ref mX, .int tS, .int tA, .int tW, .ref mA, .ref mB, .ref mW, .ref mL, .int lS])), (mH, .inl (cI, 512, .inl fH)), (mI, .inl (cL, 1200, .inr (.inl fI))), (mJ, .inl (cI, 4, .inl (k4i j0 j1 j2 j3))), (mS, .inl (cI, 4, .inl (k4i s0 st s2 s3))), (mD, .inl (cL, 256, .inr (.inl fD)))] → va_S A s.heap H locs → ∀ ls : Array Slot, lv_has ls 6 [(4, .long vv), (3, .int s1), (2, .int 1), (1, .int 0), (0, .ref m0)] → W p l e ({ frames := 2, cells := 0, slots := 0, locals := 45 }) s m args below meth c H locs 0 0 (MQ below (kQ (S := (Int32 × Int32 × Int32 × Int32 × (Nat → Int32) × (Nat → Int64) × (Nat → Int64) × Int32 × Int32 × Int32 × Int32 × Int32 × Int32 × Int32 × Int32)) eI (fun r u => (0 ≤ r.toInt ∧ r.toInt ≤ 6) ∧ jP_ (u.1) ∧ jD_ (u.2.1) ∧ jC_ (u.2.2.1) ∧ jW_ (u.2.2.2.1) (u.2.2.1) ∧ jT_ (u.2.2.2.2.2.2.2.2.2.2.2.1) (u.2.2.2.2.2.2.2.1) ∧ jT_ (u.2.2.2.2.2.2.2.2.2.2.2.2.1) (u.2.2.2.2.2.2.2.2.1) ∧ jT_ (u.2.2.2.2.2.2.2.2.2.2.2.2.2.1) (u.2.2.2.2.2.2.2.2.2.1) ∧ jT_ (u.2.2.2.2.2.2.2.2.2.2.2.2.2.2) (u.2.2.2.2.2.2.2.2.2.2.1)) D (fun u => [(m0, .inr (8, [.ref mH, .int aM, .long aC, .int mM, .long mQ, .int oV, .int u.1, .int lI, .int sW, .int u.2.1, .int sT, .long aT, .int u.2.2.1, .int u.2.2.2.1, .ref mI, .ref mJ, .ref mS, .ref mD, .int iH, .int aE, .int mN, .long sZ, .ref mX, .int tS, .int tA, .int tW, .ref mA, .ref mB, .ref mW, .ref mL, .int lS])), (mH, .inl (cI, 512, .inl u.2.2.2.2.1)), (mI, .inl (cL, 1200, .inr (.inl u.2.2.2.2.2.2.1))), (mJ, .inl (cI, 4, .inl (k4i u.2.2.2.2.2.2.2.1 u.2.2.2.2.2.2.2.2.1 u.2.2.2.2.2.2.2.2.2.1 u.2.2.2.2.2.2.2.2.2.2.1))), (mS, .inl (cI, 4, .inl (k4i u.2.2.2.2.2.2.2.2.2.2.2.1 u.2.2.2.2.2.2.2.2.2.2.2.2.1 u.2.2.2.2.2.2.2.2.2.2.2.2.2.1 u.2.2.2.2.2.2.2.2.2.2.2.2.2.2))), (mD, .inl (cL, 256, .inr (.inl u.2.2.2.2.2.1)))]) A) args s 0 0 A) (F0 m 230 ls []) := by
                  intro vv st hst H locs hP hD hS ls hl
                  refine lv_lload hx hb dX8_copies_230 (lv_at hl 0 rfl) ?_
                  refine lv_lconst (v := 0) hx hb dX8_copies_232 (by decide) ?_
                  refine W.lcmp hx hb dX8_copies_233 ?_
                  refine lv_if_lt (tgt := 246) hx hb dX8_copies_234 (by decide) (fun c_234_32 => ?_) (fun c_234_32 => ?_)
                  · have t_234_32 := c_234_32
                    try simp only [kb_eq0, kb_ne0, lg_cmp_lt, lg_cmp_le, lg_cmp_gt, lg_cmp_ge, lg_cmp_eq] at t_234_32
                    try simp only [Int32.lt_iff_toInt_lt, Int32.le_iff_toInt_le, ← Int32.toInt_inj, Int64.lt_iff_toInt_lt, Int64.le_iff_toInt_le, ← Int64.toInt_inj, Int32.toInt_toInt64, Int32.reduceToInt, Int64.reduceToInt] at t_234_32
                    refine lv_aload_n hx hb dX8_copies_246 rfl (lv_at hl 4 rfl) ?_
                    refine lv_iconst (v := 0) hx hb dX8_copies_247 (by decide) ?_
                    refine va_put (D := D) (ci := 8) (v := .int 0) (ty := .int) (C := RX8) (T := TX8) (N := 31) hx hb hts iX8_copies_X8 tyX8 tyX8_ok nmX8 hown hK hP hD hS 0 rfl rfl 12 (by decide) (hts (.fieldLink RX8 43 "TapeCalculatorModel" "chosen" "I") (List.mem_of_getElem? (i := 1) rfl)) (fun _ h9 => h9) rfl (by decide +kernel) rfl rfl (Nat.le_of_ble_eq_true rfl) dX8_copies_248 (fun H locs hP hD hS => ?_)
                    have hP : va_P D vwCl [(m0, .inr (8, [.ref mH, .int aM, .long aC, .int mM, .long mQ, .int oV, .int pL, .int lI, .int sW, .int dP, .int sT, .long aT, .int 0, .int iW, .ref mI, .ref mJ, .ref mS, .ref mD, .int iH, .int aE, .int mN, .long sZ, .ref mX, .int tS, .int tA, .int tW, .ref mA, .ref mB, .ref mW, .ref mL, .int lS])), (mH, .inl (cI, 512, .inl fH)), (mI, .inl (cL, 1200, .inr (.inl fI))), (mJ, .inl (cI, 4, .inl (k4i j0 j1 j2 j3))), (mS, .inl (cI, 4, .inl (k4i s0 st s2 s3))), (mD, .inl (cL, 256, .inr (.inl fD)))] H := hP
                    have hD : va_D A [(m0, .inr (8, [.ref mH, .int aM, .long aC, .int mM, .long mQ, .int oV, .int pL, .int lI, .int sW, .int dP, .int sT, .long aT, .int 0, .int iW, .ref mI, .ref mJ, .ref mS, .ref mD, .int iH, .int aE, .int mN, .long sZ, .ref mX, .int tS, .int tA, .int tW, .ref mA, .ref mB, .ref mW, .ref mL, .int lS])), (mH, .inl (cI, 512, .inl fH)), (mI, .inl (cL, 1200, .inr (.inl fI))), (mJ, .inl (cI, 4, .inl (k4i j0 j1 j2 j3))), (mS, .inl (cI, 4, .inl (k4i s0 st s2 s3))), (mD, .inl (cL, 256, .inr (.inl fD)))] := hD
                    refine lv_aload_n hx hb dX8_copies_251 rfl (lv_at hl 4 rfl) ?_
                    refine lv_lload hx hb dX8_copies_252 (lv_at hl 0 rfl) ?_
                    refine lv_ldc2 (v := (-2)) hx hb hown (hts (.constantLong RX8 111 (-2)) (List.mem_of_getElem? (i := 9) rfl)) dX8_copies_254 ?_
                    refine W.lcmp hx hb dX8_copies_257 ?_
                    refine lv_if_ne (tgt := 265) hx hb dX8_copies_258 (by decide) (fun c_258_33 => ?_) (fun c_258_33 => ?_)
                    · have t_258_33 := c_258_33
                      try simp only [kb_eq0, kb_ne0, lg_cmp_lt, lg_cmp_le, lg_cmp_gt, lg_cmp_ge, lg_cmp_eq] at t_258_33
                      try simp only [Int32.lt_iff_toInt_lt, Int32.le_iff_toInt_le, ← Int32.toInt_inj, Int64.lt_iff_toInt_lt, Int64.le_iff_toInt_le, ← Int64.toInt_inj, Int32.toInt_toInt64, Int32.reduceToInt, Int64.reduceToInt] at t_258_33
                      refine lv_iconst (v := 1) hx hb dX8_copies_265 (by decide) ?_
                      refine kCallVd (wr := [(mH, .inl (cI, 512, .inl fH)), (mI, .inl (cL, 1200, .inr (.inl fI))), (mJ, .inl (cI, 4, .inl (k4i j0 j1 j2 j3))), (mS, .inl (cI, 4, .inl (k4i s0 st s2 s3))), (mD, .inl (cL, 256, .inr (.inl fD)))]) (va_runV (As := [.int 1]) (rest := []) ⟨hx, hb, hml, hown, hts⟩ (q_go l D cI cL cB cZ cT _ m0 mH mI mJ mS mD mX mA mB mW mL aM aC mM mQ oV pL lI sW dP sT aT 0 iW iH aE mN sZ tS tA tW lS 1) (cwV 1 hts gX8_copies_X8_go rfl rfl rfl (by decide +kernel) ⟨Nat.le_of_ble_eq_true rfl, Nat.le_of_ble_eq_true rfl⟩) (kPreV hG hP hD [0] rfl (by decide) 0 8 rfl rfl rfl) rfl rfl hl.1 rfl (lv_room (Nat.le_of_ble_eq_true rfl)) dX8_copies_266 ⟨Nat.le_of_ble_eq_true rfl, Nat.le_of_ble_eq_true rfl⟩) hA hP hD hS [0] [1, 2, 3, 4, 5] rfl rfl (by decide) (by decide) (fun _ u_r_35 H locs wr_35 hP hD hS => ?_)
                      have hP : va_P D vwCl [(mH, .inl (cI, 512, .inl fH)), (mI, .inl (cL, 1200, .inr (.inl fI))), (mJ, .inl (cI, 4, .inl (k4i j0 j1 j2 j3))), (mS, .inl (cI, 4, .inl (k4i s0 st s2 s3))), (mD, .inl (cL, 256, .inr (.inl fD))), (m0, .inr (8, [.ref mH, .int aM, .long aC, .int mM, .long mQ, .int oV, .int u_r_35, .int lI, .int sW, .int dP, .int sT, .long aT, .int 0, .int iW, .ref mI, .ref mJ, .ref mS, .ref mD, .int iH, .int aE, .int mN, .long sZ, .ref mX, .int tS, .int tA, .int tW, .ref mA, .ref mB, .ref mW, .ref mL, .int lS]))] H := hP
                      have hD : va_D A [(mH, .inl (cI, 512, .inl fH)), (mI, .inl (cL, 1200, .inr (.inl fI))), (mJ, .inl (cI, 4, .inl (k4i j0 j1 j2 j3))), (mS, .inl (cI, 4, .inl (k4i s0 st s2 s3))), (mD, .inl (cL, 256, .inr (.inl fD))), (m0, .inr (8, [.ref mH, .int aM, .long aC, .int mM, .long mQ, .int oV, .int u_r_35, .int lI, .int sW, .int dP, .int sT, .long aT, .int 0, .int iW, .ref mI, .ref mJ, .ref mS, .ref mD, .int iH, .int aE, .int mN, .long sZ, .ref mX, .int tS, .int tA, .int tW, .ref mA, .ref mB, .ref mW, .ref mL, .int lS]))] := hD
                      try dsimp only at wr_35
                      try simp only [Int32.reduceToInt, Int64.reduceToInt] at wr_35
                      refine lv_iconst (v := 0) hx hb dX8_copies_269 (by decide) ?_
                      refine kIret (u := (u_r_35, dP, 0, iW, fH, fD, fI, j0, j1, j2, j3, s0, st, s2, s3)) hx hb hr rfl hlocks hS dX8_copies_270 ?_ (hP.sub [5, 0, 1, 2, 3, 4] rfl) (hD.sub [5, 0, 1, 2, 3, 4] (by decide) rfl)
                      try dsimp only
                      repeat' (with_reducible apply And.intro)
                      all_goals first | with_reducible assumption | ((try simp only [jT_, jP_, jD_, jC_, jB_, jW_, Int32.reduceToInt, Int64.reduceToInt, true_or, or_true, true_and, and_true]) <;> omega)
                    · have t_258_33 := c_258_33
                      try simp only [kb_eq0, kb_ne0, lg_cmp_lt, lg_cmp_le, lg_cmp_gt, lg_cmp_ge, lg_cmp_eq] at t_258_33
                      try simp only [Int32.lt_iff_toInt_lt, Int32.le_iff_toInt_le, ← Int32.toInt_inj, Int64.lt_iff_toInt_lt, Int64.le_iff_toInt_le, ← Int64.toInt_inj, Int32.toInt_toInt64, Int32.reduceToInt, Int64.reduceToInt] at t_258_33
                      refine lv_iconst (v := 2) hx hb dX8_copies_261 (by decide) ?_
                      refine lv_goto (tgt := 266) hx hb dX8_copies_262 (by decide) ?_
                      refine kCallVd (wr := [(mH, .inl (cI, 512, .inl fH)), (mI, .inl (cL, 1200, .inr (.inl fI))), (mJ, .inl (cI, 4, .inl (k4i j0 j1 j2 j3))), (mS, .inl (cI, 4, .inl (k4i s0 st s2 s3))), (mD, .inl (cL, 256, .inr (.inl fD)))]) (va_runV (As := [.int 2]) (rest := []) ⟨hx, hb, hml, hown, hts⟩ (q_go l D cI cL cB cZ cT _ m0 mH mI mJ mS mD mX mA mB mW mL aM aC mM mQ oV pL lI sW dP sT aT 0 iW iH aE mN sZ tS tA tW lS 2) (cwV 1 hts gX8_copies_X8_go rfl rfl rfl (by decide +kernel) ⟨Nat.le_of_ble_eq_true rfl, Nat.le_of_ble_eq_true rfl⟩) (kPreV hG hP hD [0] rfl (by decide) 0 8 rfl rfl rfl) rfl rfl hl.1 rfl (lv_room (Nat.le_of_ble_eq_true rfl)) dX8_copies_266 ⟨Nat.le_of_ble_eq_true rfl, Nat.le_of_ble_eq_true rfl⟩) hA hP hD hS [0] [1, 2, 3, 4, 5] rfl rfl (by decide) (by decide) (fun _ u_r_36 H locs wr_36 hP hD hS => ?_)
                      have hP : va_P D vwCl [(mH, .inl (cI, 512, .inl fH)), (mI, .inl (cL, 1200, .inr (.inl fI))), (mJ, .inl (cI, 4, .inl (k4i j0 j1 j2 j3))), (mS, .inl (cI, 4, .inl (k4i s0 st s2 s3))), (mD, .inl (cL, 256, .inr (.inl fD))), (m0, .inr (8, [.ref mH, .int aM, .long aC, .int mM, .long mQ, .int oV, .int u_r_36, .int lI, .int sW, .int dP, .int sT, .long aT, .int 0, .int iW, .ref mI, .ref mJ, .ref mS, .ref mD, .int iH, .int aE, .int mN, .long sZ, .ref mX, .int tS, .int tA, .int tW, .ref mA, .ref mB, .ref mW, .ref mL, .int lS]))] H := hP
                      have hD : va_D A [(mH, .inl (cI, 512, .inl fH)), (mI, .inl (cL, 1200, .inr (.inl fI))), (mJ, .inl (cI, 4, .inl (k4i j0 j1 j2 j3))), (mS, .inl (cI, 4, .inl (k4i s0 st s2 s3))), (mD, .inl (cL, 256, .inr (.inl fD))), (m0, .inr (8, [.ref mH, .int aM, .long aC, .int mM, .long mQ, .int oV, .int u_r_36, .int lI, .int sW, .int dP, .int sT, .long aT, .int 0, .int iW, .ref mI, .ref mJ, .ref mS, .ref mD, .int iH, .int aE, .int mN, .long sZ, .ref mX, .int tS, .int tA, .int tW, .ref mA, .ref mB, .ref mW, .ref mL, .int lS]))] := hD
                      try dsimp only at wr_36
                      try simp only [Int32.reduceToInt, Int64.reduceToInt] at wr_36
                      refine lv_iconst (v := 0) hx hb dX8_copies_269 (by decide) ?_
                      refine kIret (u := (u_r_36, dP, 0, iW, fH, fD, fI, j0, j1, j2, j3, s0, st, s2, s3)) hx hb hr rfl hlocks hS dX8_copies_270 ?_ (hP.sub [5, 0, 1, 2, 3, 4] rfl) (hD.sub [5, 0, 1, 2, 3, 4] (by decide) rfl)
                      try dsimp only
                      repeat' (with_reducible apply And.intro)
                      all_goals first | with_reducible assumption | ((try simp only [jT_, jP_, jD_, jC_, jB_, jW_, Int32.reduceToInt, Int64.reduceToInt, true_or, or_true, true_and, and_true]) <;> omega)
                  · have t_234_32 := c_234_32
                    try simp only [kb_eq0, kb_ne0, lg_cmp_lt, lg_cmp_le, lg_cmp_gt, lg_cmp_ge, lg_cmp_eq] at t_234_32
                    try simp only [Int32.lt_iff_toInt_lt, Int32.le_iff_toInt_le, ← Int32.toInt_inj, Int64.lt_iff_toInt_lt, Int64.le_iff_toInt_le, ← Int64.toInt_inj, Int32.toInt_toInt64, Int32.reduceToInt, Int64.reduceToInt] at t_234_32
                    refine lv_aload_n hx hb dX8_copies_237 rfl (lv_at hl 4 rfl) ?_
                    refine lv_lload hx hb dX8_copies_238 (lv_at hl 0 rfl) ?_
                    refine kCallVd (wr := [(mI, .inl (cL, 1200, .inr (.inl fI))), (mJ, .inl (cI, 4, .inl (k4i j0 j1 j2 j3))), (mS, .inl (cI, 4, .inl (k4i s0 st s2 s3))), (mD, .inl (cL, 256, .inr (.inl fD)))]) (va_runV (As := [.long vv]) (rest := []) ⟨hx, hb, hml, hown, hts⟩ (q_store l D cI cL cB cZ cT _ m0 mH mI mJ mS mD mX mA mB mW mL aM aC mM mQ oV pL lI sW dP sT aT 2 iW iH aE mN sZ tS tA tW lS fH vv (by omega)) (cwV 1 hts gX8_copies_X8_store rfl rfl rfl (by decide +kernel) ⟨Nat.le_of_ble_eq_true rfl, Nat.le_of_ble_eq_true rfl⟩) (kPreV hG hP hD [0, 1] rfl (by decide) 0 8 rfl rfl rfl) rfl rfl hl.1 rfl (lv_room (Nat.le_of_ble_eq_true rfl)) dX8_copies_240 ⟨Nat.le_of_ble_eq_true rfl, Nat.le_of_ble_eq_true rfl⟩) hA hP hD hS [0, 1] [2, 3, 4, 5] rfl rfl (by decide) (by decide) (fun _ u_r_37 H locs wr_37 hP hD hS => ?_)
                    have hP : va_P D vwCl [(mI, .inl (cL, 1200, .inr (.inl fI))), (mJ, .inl (cI, 4, .inl (k4i j0 j1 j2 j3))), (mS, .inl (cI, 4, .inl (k4i s0 st s2 s3))), (mD, .inl (cL, 256, .inr (.inl fD))), (m0, .inr (8, [.ref mH, .int aM, .long aC, .int mM, .long mQ, .int oV, .int pL, .int lI, .int sW, .int dP, .int sT, .long aT, .int 2, .int iW, .ref mI, .ref mJ, .ref mS, .ref mD, .int iH, .int aE, .int mN, .long sZ, .ref mX, .int tS, .int tA, .int tW, .ref mA, .ref mB, .ref mW, .ref mL, .int lS])), (mH, .inl (cI, 512, .inl u_r_37))] H := hP
                    have hD : va_D A [(mI, .inl (cL, 1200, .inr (.inl fI))), (mJ, .inl (cI, 4, .inl (k4i j0 j1 j2 j3))), (mS, .inl (cI, 4, .inl (k4i s0 st s2 s3))), (mD, .inl (cL, 256, .inr (.inl fD))), (m0, .inr (8, [.ref mH, .int aM, .long aC, .int mM, .long mQ, .int oV, .int pL, .int lI, .int sW, .int dP, .int sT, .long aT, .int 2, .int iW, .ref mI, .ref mJ, .ref mS, .ref mD, .int iH, .int aE, .int mN, .long sZ, .ref mX, .int tS, .int tA, .int tW, .ref mA, .ref mB, .ref mW, .ref mL, .int lS])), (mH, .inl (cI, 512, .inl u_r_37))] := hD
                    try dsimp only at wr_37
                    try simp only [Int32.reduceToInt, Int64.reduceToInt] at wr_37
                    refine lv_goto (tgt := 269) hx hb dX8_copies_243 (by decide) ?_
                    refine lv_iconst (v := 0) hx hb dX8_copies_269 (by decide) ?_
                    refine kIret (u := (pL, dP, 2, iW, u_r_37, fD, fI, j0, j1, j2, j3, s0, st, s2, s3)) hx hb hr rfl hlocks hS dX8_copies_270 ?_ (hP.sub [4, 5, 0, 1, 2, 3] rfl) (hD.sub [4, 5, 0, 1, 2, 3] (by decide) rfl)
                    try dsimp only
                    repeat' (with_reducible apply And.intro)
                    all_goals first | with_reducible assumption | ((try simp only [jT_, jP_, jD_, jC_, jB_, jW_, Int32.reduceToInt, Int64.reduceToInt, true_or, or_true, true_and, and_true]) <;> omega)
                refine lv_iload_n hx hb dX8_copies_165 rfl (lv_at hl 0 rfl) ?_
                refine lv_i2l hx hb dX8_copies_166 rfl ?_
                refine lv_lconst (v := 0) hx hb dX8_copies_167 (by decide) ?_
                refine lv_aload_n hx hb dX8_copies_168 rfl (lv_at hl 3 rfl) ?_
                refine va_get (D := D) (ci := 8) (v := .ref mJ) (C := RX8) (T := TX8) (N := 31) hx hb hts iX8_copies_X8 hown hK hP 0 rfl rfl 15 (by decide) (hts (.fieldLink RX8 17 "TapeCalculatorModel" "items" "[I") (List.mem_of_getElem? (i := 6) rfl)) (fun _ h9 => h9) rfl dX8_copies_169 ?_
                refine lv_iload_n hx hb dX8_copies_172 rfl (lv_at hl 1 rfl) ?_
                refine va_iald hx hb hK hP 3 0 rfl rfl (vp_in_iff.mpr (by decide)) dX8_copies_173 ?_
                refine lv_topi (fun x_38 ex_38 => ?_)
                obtain rfl : j1 = x_38 := ex_38.symm
                refine lv_iconst (v := 1) hx hb dX8_copies_174 (by decide) ?_
                refine lv_isub hx hb dX8_copies_175 ?_
                refine lv_i2l hx hb dX8_copies_176 rfl ?_
                refine kCallI (wr := [(m0, .inr (8, [.ref mH, .int aM, .long aC, .int mM, .long mQ, .int oV, .int pL, .int lI, .int sW, .int dP, .int sT, .long aT, .int 2, .int iW, .ref mI, .ref mJ, .ref mS, .ref mD, .int iH, .int aE, .int mN, .long sZ, .ref mX, .int tS, .int tA, .int tW, .ref mA, .ref mB, .ref mW, .ref mL, .int lS])), (mH, .inl (cI, 512, .inl fH)), (mI, .inl (cL, 1200, .inr (.inl fI))), (mJ, .inl (cI, 4, .inl (k4i j0 j1 j2 j3))), (mS, .inl (cI, 4, .inl (k4i s0 s1 s2 s3))), (mD, .inl (cL, 256, .inr (.inl fD)))]) (va_runS (As := [.long s1.toInt64, .long 0, .long (j1 - 1).toInt64]) (rest := []) ⟨hx, hb, hml, hown, hts⟩ (q_in l D cI cL cB cZ cT _ (s1.toInt64) 0 (j1 - 1).toInt64) (va_cwS 3 hts gX8_copies_X8_in rfl rfl rfl (by decide +kernel) ⟨Nat.le_of_ble_eq_true rfl, Nat.le_of_ble_eq_true rfl⟩) (kPreS hG hP hD [] rfl (by decide)) rfl rfl hl.1 rfl (lv_room (Nat.le_of_ble_eq_true rfl)) dX8_copies_177 ⟨Nat.le_of_ble_eq_true rfl, Nat.le_of_ble_eq_true rfl⟩) hA hP hD hS [] [0, 1, 2, 3, 4, 5] rfl rfl (by decide) (by decide) (fun r_39 u_r_39 H locs wr_39 hP hD hS => ?_)
                have hP : va_P D vwCl [(m0, .inr (8, [.ref mH, .int aM, .long aC, .int mM, .long mQ, .int oV, .int pL, .int lI, .int sW, .int dP, .int sT, .long aT, .int 2, .int iW, .ref mI, .ref mJ, .ref mS, .ref mD, .int iH, .int aE, .int mN, .long sZ, .ref mX, .int tS, .int tA, .int tW, .ref mA, .ref mB, .ref mW, .ref mL, .int lS])), (mH, .inl (cI, 512, .inl fH)), (mI, .inl (cL, 1200, .inr (.inl fI))), (mJ, .inl (cI, 4, .inl (k4i j0 j1 j2 j3))), (mS, .inl (cI, 4, .inl (k4i s0 s1 s2 s3))), (mD, .inl (cL, 256, .inr (.inl fD)))] H := hP
                have hD : va_D A [(m0, .inr (8, [.ref mH, .int aM, .long aC, .int mM, .long mQ, .int oV, .int pL, .int lI, .int sW, .int dP, .int sT, .long aT, .int 2, .int iW, .ref mI, .ref mJ, .ref mS, .ref mD, .int iH, .int aE, .int mN, .long sZ, .ref mX, .int tS, .int tA, .int tW, .ref mA, .ref mB, .ref mW, .ref mL, .int lS])), (mH, .inl (cI, 512, .inl fH)), (mI, .inl (cL, 1200, .inr (.inl fI))), (mJ, .inl (cI, 4, .inl (k4i j0 j1 j2 j3))), (mS, .inl (cI, 4, .inl (k4i s0 s1 s2 s3))), (mD, .inl (cL, 256, .inr (.inl fD)))] := hD
                try dsimp only at wr_39
                subst wr_39
                refine lv_if_eq (tgt := 198) hx hb dX8_copies_180 (by decide) (fun c_180_39 => ?_) (fun c_180_39 => ?_)
                · have t_180_39 := c_180_39
                  try simp only [kb_eq0, kb_ne0, lg_cmp_lt, lg_cmp_le, lg_cmp_gt, lg_cmp_ge, lg_cmp_eq] at t_180_39
                  try simp only [Int32.lt_iff_toInt_lt, Int32.le_iff_toInt_le, ← Int32.toInt_inj, Int64.lt_iff_toInt_lt, Int64.le_iff_toInt_le, ← Int64.toInt_inj, Int32.toInt_toInt64, Int32.reduceToInt, Int64.reduceToInt] at t_180_39
                  refine lv_ldc2 (v := (-9)) hx hb hown (hts (.constantLong RX8 107 (-9)) (List.mem_of_getElem? (i := 8) rfl)) dX8_copies_198 ?_
                  refine lv_lstore (lv' := [(4, .long (-9)), (3, .int s1), (2, .int 1), (1, .int 0), (0, .ref m0)]) hx hb dX8_copies_201 hl (by decide) rfl (fun ls hl => ?_)
                  refine lv_lload hx hb dX8_copies_203 (lv_at hl 0 rfl) ?_
                  refine lv_ldc2 (v := (-9)) hx hb hown (hts (.constantLong RX8 107 (-9)) (List.mem_of_getElem? (i := 8) rfl)) dX8_copies_205 ?_
                  refine W.lcmp hx hb dX8_copies_208 ?_
                  refine lv_topi (fun x_41 ex_41 => ?_)
                  obtain rfl : x_41 = 0 := ex_41.trans (by decide)
                  refine lv_if_eq (tgt := 230) hx hb dX8_copies_209 (by decide) (fun c_209_41 => ?_) (fun c_209_41 => ?_)
                  · have t_209_41 := c_209_41
                    try simp only [kb_eq0, kb_ne0, lg_cmp_lt, lg_cmp_le, lg_cmp_gt, lg_cmp_ge, lg_cmp_eq] at t_209_41
                    try simp only [Int32.lt_iff_toInt_lt, Int32.le_iff_toInt_le, ← Int32.toInt_inj, Int64.lt_iff_toInt_lt, Int64.le_iff_toInt_le, ← Int64.toInt_inj, Int32.toInt_toInt64, Int32.reduceToInt, Int64.reduceToInt] at t_209_41
                    exact J230 (-9) s1 (by first | with_reducible assumption | ((try simp only [jT_, jP_, jD_, jC_, jB_, jW_, Int32.reduceToInt, Int64.reduceToInt, true_or, or_true, true_and, and_true]) <;> omega)) _ _ (hP.sub [0, 1, 2, 3, 4, 5] rfl) (hD.sub [0, 1, 2, 3, 4, 5] (by decide) rfl) hS ls (lv_sub hl [0, 1, 2, 3, 4] rfl)
                  · exact absurd (by decide) c_209_41
                · have t_180_39 := c_180_39
                  try simp only [kb_eq0, kb_ne0, lg_cmp_lt, lg_cmp_le, lg_cmp_gt, lg_cmp_ge, lg_cmp_eq] at t_180_39
                  try simp only [Int32.lt_iff_toInt_lt, Int32.le_iff_toInt_le, ← Int32.toInt_inj, Int64.lt_iff_toInt_lt, Int64.le_iff_toInt_le, ← Int64.toInt_inj, Int32.toInt_toInt64, Int32.reduceToInt, Int64.reduceToInt] at t_180_39
                  refine lv_aload_n hx hb dX8_copies_183 rfl (lv_at hl 3 rfl) ?_
                  refine va_get (D := D) (ci := 8) (v := .ref mI) (C := RX8) (T := TX8) (N := 31) hx hb hts iX8_copies_X8 hown hK hP 0 rfl rfl 14 (by decide) (hts (.fieldLink RX8 13 "TapeCalculatorModel" "item" "[J") (List.mem_of_getElem? (i := 7) rfl)) (fun _ h9 => h9) rfl dX8_copies_184 ?_
                  refine lv_sipush (v := 300) hx hb dX8_copies_187 (by decide) ?_
                  refine lv_iload_n hx hb dX8_copies_190 rfl (lv_at hl 1 rfl) ?_
                  refine lv_imul hx hb dX8_copies_191 ?_
                  refine lv_topi (fun x_43 ex_43 => ?_)
                  obtain rfl : x_43 = 300 := ex_43.trans (by decide)
                  refine lv_iload_n hx hb dX8_copies_192 rfl (lv_at hl 0 rfl) ?_
                  refine lv_iadd hx hb dX8_copies_193 ?_
                  refine va_lald hx hb hK hP 2 1 rfl rfl (vp_in_iff.mpr (by have hx9 := k_addg (a := 300) (b := s1) (by decide) (by omega); simp only [Int32.reduceToInt] at hx9; omega)) dX8_copies_194 ?_
                  refine lv_goto (tgt := 201) hx hb dX8_copies_195 (by decide) ?_
                  refine lv_topl (fun x_44 ex_44 => ?_)
                  refine lv_lstore (lv' := [(4, .long x_44), (3, .int s1), (2, .int 1), (1, .int 0), (0, .ref m0)]) hx hb dX8_copies_201 hl (by decide) rfl (fun ls hl => ?_)
                  refine lv_lload hx hb dX8_copies_203 (lv_at hl 0 rfl) ?_
                  refine lv_ldc2 (v := (-9)) hx hb hown (hts (.constantLong RX8 107 (-9)) (List.mem_of_getElem? (i := 8) rfl)) dX8_copies_205 ?_
                  refine W.lcmp hx hb dX8_copies_208 ?_
                  refine lv_if_eq (tgt := 230) hx hb dX8_copies_209 (by decide) (fun c_209_44 => ?_) (fun c_209_44 => ?_)
                  · have t_209_44 := c_209_44
                    try simp only [kb_eq0, kb_ne0, lg_cmp_lt, lg_cmp_le, lg_cmp_gt, lg_cmp_ge, lg_cmp_eq] at t_209_44
                    try simp only [Int32.lt_iff_toInt_lt, Int32.le_iff_toInt_le, ← Int32.toInt_inj, Int64.lt_iff_toInt_lt, Int64.le_iff_toInt_le, ← Int64.toInt_inj, Int32.toInt_toInt64, Int32.reduceToInt, Int64.reduceToInt] at t_209_44
                    exact J230 x_44 s1 (by first | with_reducible assumption | ((try simp only [jT_, jP_, jD_, jC_, jB_, jW_, Int32.reduceToInt, Int64.reduceToInt, true_or, or_true, true_and, and_true]) <;> omega)) _ _ (hP.sub [0, 1, 2, 3, 4, 5] rfl) (hD.sub [0, 1, 2, 3, 4, 5] (by decide) rfl) hS ls (lv_sub hl [0, 1, 2, 3, 4] rfl)
                  · have t_209_44 := c_209_44
                    try simp only [kb_eq0, kb_ne0, lg_cmp_lt, lg_cmp_le, lg_cmp_gt, lg_cmp_ge, lg_cmp_eq] at t_209_44
                    try simp only [Int32.lt_iff_toInt_lt, Int32.le_iff_toInt_le, ← Int32.toInt_inj, Int64.lt_iff_toInt_lt, Int64.le_iff_toInt_le, ← Int64.toInt_inj, Int32.toInt_toInt64, Int32.reduceToInt, Int64.reduceToInt] at t_209_44
                    refine lv_aload_n hx hb dX8_copies_212 rfl (lv_at hl 4 rfl) ?_
                    refine va_get (D := D) (ci := 8) (v := .ref mS) (C := RX8) (T := TX8) (N := 31) hx hb hts iX8_copies_X8 hown hK hP 0 rfl rfl 16 (by decide) (hts (.fieldLink RX8 20 "TapeCalculatorModel" "stands" "[I") (List.mem_of_getElem? (i := 5) rfl)) (fun _ h9 => h9) rfl dX8_copies_213 ?_
                    refine lv_iload_n hx hb dX8_copies_216 rfl (lv_at hl 2 rfl) ?_
                    refine lv_dup2_11 hx hb dX8_copies_217 rfl rfl ?_
                    refine va_iald hx hb hK hP 4 0 rfl rfl (vp_in_iff.mpr (by decide)) dX8_copies_218 ?_
                    refine lv_topi (fun x_46 ex_46 => ?_)
                    obtain rfl : s1 = x_46 := ex_46.symm
                    refine lv_iload_n hx hb dX8_copies_219 rfl (lv_at hl 3 rfl) ?_
                    refine lv_if_eq (tgt := 227) hx hb dX8_copies_220 (by decide) (fun c_220_46 => ?_) (fun c_220_46 => ?_)
                    · have t_220_46 := c_220_46
                      try simp only [kb_eq0, kb_ne0, lg_cmp_lt, lg_cmp_le, lg_cmp_gt, lg_cmp_ge, lg_cmp_eq] at t_220_46
                      try simp only [Int32.lt_iff_toInt_lt, Int32.le_iff_toInt_le, ← Int32.toInt_inj, Int64.lt_iff_toInt_lt, Int64.le_iff_toInt_le, ← Int64.toInt_inj, Int32.toInt_toInt64, Int32.reduceToInt, Int64.reduceToInt] at t_220_46
                      refine lv_iconst (v := 1) hx hb dX8_copies_227 (by decide) ?_
                      refine lv_iadd hx hb dX8_copies_228 ?_
                      refine va_iast hx hb hK hP hD hS 4 0 rfl rfl (vp_in_iff.mpr (by decide)) dX8_copies_229 (fun H locs hP hD hS => ?_)
                      rw [k4i_1] at hP hD
                      have hP : va_P D vwCl [(m0, .inr (8, [.ref mH, .int aM, .long aC, .int mM, .long mQ, .int oV, .int pL, .int lI, .int sW, .int dP, .int sT, .long aT, .int 2, .int iW, .ref mI, .ref mJ, .ref mS, .ref mD, .int iH, .int aE, .int mN, .long sZ, .ref mX, .int tS, .int tA, .int tW, .ref mA, .ref mB, .ref mW, .ref mL, .int lS])), (mH, .inl (cI, 512, .inl fH)), (mI, .inl (cL, 1200, .inr (.inl fI))), (mJ, .inl (cI, 4, .inl (k4i j0 j1 j2 j3))), (mS, .inl (cI, 4, .inl (k4i s0 (s1 + 1) s2 s3))), (mD, .inl (cL, 256, .inr (.inl fD)))] H := hP
                      have hD : va_D A [(m0, .inr (8, [.ref mH, .int aM, .long aC, .int mM, .long mQ, .int oV, .int pL, .int lI, .int sW, .int dP, .int sT, .long aT, .int 2, .int iW, .ref mI, .ref mJ, .ref mS, .ref mD, .int iH, .int aE, .int mN, .long sZ, .ref mX, .int tS, .int tA, .int tW, .ref mA, .ref mB, .ref mW, .ref mL, .int lS])), (mH, .inl (cI, 512, .inl fH)), (mI, .inl (cL, 1200, .inr (.inl fI))), (mJ, .inl (cI, 4, .inl (k4i j0 j1 j2 j3))), (mS, .inl (cI, 4, .inl (k4i s0 (s1 + 1) s2 s3))), (mD, .inl (cL, 256, .inr (.inl fD)))] := hD
                      exact J230 x_44 (s1 + 1) (by first | with_reducible assumption | ((try simp only [jT_, jP_, jD_, jC_, jB_, jW_, Int32.reduceToInt, Int64.reduceToInt, true_or, or_true, true_and, and_true]) <;> omega)) _ _ (hP.sub [0, 1, 2, 3, 4, 5] rfl) (hD.sub [0, 1, 2, 3, 4, 5] (by decide) rfl) hS ls (lv_sub hl [0, 1, 2, 3, 4] rfl)
                    · exact absurd (by decide) c_220_46
              · exact absurd (by decide) c_144_30
            · exact absurd (by decide) c_124_28
          · exact absurd (by decide) c_114_27
        · exact absurd (by decide) c_79_26
      · exact absurd (by decide) c_16_25
    · exact absurd c_4_24 (by decide)
  · have hiw1 : iW.toInt = 0 := by simp only [jW_, Int32.reduceToInt] at hiw; omega
    have hu2 : 0 ≤ s2.toInt ∧ s2.toInt ≤ j2.toInt ∧ j2.toInt ≤ 300 := ht2
    have hs0 := k_sub (a := j2) (b := 1) (by omega) (by decide)
    simp only [Int32.reduceToInt] at hs0
    have hs1 := k_sub (a := s2) (b := 1) (by omega) (by decide)
    simp only [Int32.reduceToInt] at hs1
    have hs2 := k_addg (a := s2) (b := 1) (by omega) (by decide)
    have hs3 := k_addg (a := s2) (b := (-1)) (by omega) (by decide)
    simp only [Int32.reduceToInt, show (-1 : Int32).toInt = -1 from rfl] at hs2 hs3
    refine lv_aload_n hx hb dX8_copies_0 rfl (lv_at hl 0 rfl) ?_
    refine va_get (D := D) (ci := 8) (v := .int 3) (C := RX8) (T := TX8) (N := 31) hx hb hts iX8_copies_X8 hown hK hP 0 rfl rfl 12 (by decide) (hts (.fieldLink RX8 43 "TapeCalculatorModel" "chosen" "I") (List.mem_of_getElem? (i := 1) rfl)) (fun _ h9 => h9) rfl dX8_copies_1 ?_
    refine lv_if_ne (tgt := 10) hx hb dX8_copies_4 (by decide) (fun c_4_47 => ?_) (fun c_4_47 => ?_)
    · have t_4_47 := c_4_47
      try simp only [kb_eq0, kb_ne0, lg_cmp_lt, lg_cmp_le, lg_cmp_gt, lg_cmp_ge, lg_cmp_eq] at t_4_47
      try simp only [Int32.lt_iff_toInt_lt, Int32.le_iff_toInt_le, ← Int32.toInt_inj, Int64.lt_iff_toInt_lt, Int64.le_iff_toInt_le, ← Int64.toInt_inj, Int32.toInt_toInt64, Int32.reduceToInt, Int64.reduceToInt] at t_4_47
      refine lv_aload_n hx hb dX8_copies_10 rfl (lv_at hl 0 rfl) ?_
      refine va_get (D := D) (ci := 8) (v := .int 3) (C := RX8) (T := TX8) (N := 31) hx hb hts iX8_copies_X8 hown hK hP 0 rfl rfl 12 (by decide) (hts (.fieldLink RX8 43 "TapeCalculatorModel" "chosen" "I") (List.mem_of_getElem? (i := 1) rfl)) (fun _ h9 => h9) rfl dX8_copies_11 ?_
      refine lv_bipush (v := 12) hx hb dX8_copies_14 (by decide) ?_
      refine lv_icmp_le (tgt := 73) hx hb dX8_copies_16 (by decide) (fun c_16_48 => ?_) (fun c_16_48 => ?_)
      · have t_16_48 := c_16_48
        try simp only [kb_eq0, kb_ne0, lg_cmp_lt, lg_cmp_le, lg_cmp_gt, lg_cmp_ge, lg_cmp_eq] at t_16_48
        try simp only [Int32.lt_iff_toInt_lt, Int32.le_iff_toInt_le, ← Int32.toInt_inj, Int64.lt_iff_toInt_lt, Int64.le_iff_toInt_le, ← Int64.toInt_inj, Int32.toInt_toInt64, Int32.reduceToInt, Int64.reduceToInt] at t_16_48
        refine lv_aload_n hx hb dX8_copies_73 rfl (lv_at hl 0 rfl) ?_
        refine va_get (D := D) (ci := 8) (v := .int 3) (C := RX8) (T := TX8) (N := 31) hx hb hts iX8_copies_X8 hown hK hP 0 rfl rfl 12 (by decide) (hts (.fieldLink RX8 43 "TapeCalculatorModel" "chosen" "I") (List.mem_of_getElem? (i := 1) rfl)) (fun _ h9 => h9) rfl dX8_copies_74 ?_
        refine lv_bipush (v := 8) hx hb dX8_copies_77 (by decide) ?_
        refine lv_icmp_le (tgt := 109) hx hb dX8_copies_79 (by decide) (fun c_79_49 => ?_) (fun c_79_49 => ?_)
        · have t_79_49 := c_79_49
          try simp only [kb_eq0, kb_ne0, lg_cmp_lt, lg_cmp_le, lg_cmp_gt, lg_cmp_ge, lg_cmp_eq] at t_79_49
          try simp only [Int32.lt_iff_toInt_lt, Int32.le_iff_toInt_le, ← Int32.toInt_inj, Int64.lt_iff_toInt_lt, Int64.le_iff_toInt_le, ← Int64.toInt_inj, Int32.toInt_toInt64, Int32.reduceToInt, Int64.reduceToInt] at t_79_49
          refine lv_aload_n hx hb dX8_copies_109 rfl (lv_at hl 0 rfl) ?_
          refine va_get (D := D) (ci := 8) (v := .int 3) (C := RX8) (T := TX8) (N := 31) hx hb hts iX8_copies_X8 hown hK hP 0 rfl rfl 12 (by decide) (hts (.fieldLink RX8 43 "TapeCalculatorModel" "chosen" "I") (List.mem_of_getElem? (i := 1) rfl)) (fun _ h9 => h9) rfl dX8_copies_110 ?_
          refine lv_iconst (v := 4) hx hb dX8_copies_113 (by decide) ?_
          refine lv_icmp_le (tgt := 121) hx hb dX8_copies_114 (by decide) (fun c_114_50 => ?_) (fun c_114_50 => ?_)
          · have t_114_50 := c_114_50
            try simp only [kb_eq0, kb_ne0, lg_cmp_lt, lg_cmp_le, lg_cmp_gt, lg_cmp_ge, lg_cmp_eq] at t_114_50
            try simp only [Int32.lt_iff_toInt_lt, Int32.le_iff_toInt_le, ← Int32.toInt_inj, Int64.lt_iff_toInt_lt, Int64.le_iff_toInt_le, ← Int64.toInt_inj, Int32.toInt_toInt64, Int32.reduceToInt, Int64.reduceToInt] at t_114_50
            refine lv_iconst (v := 0) hx hb dX8_copies_121 (by decide) ?_
            refine lv_istore_n (lv' := [(1, .int 0), (0, .ref m0)]) hx hb dX8_copies_122 rfl hl (by decide) rfl (fun ls hl => ?_)
            refine lv_iload_n hx hb dX8_copies_123 rfl (lv_at hl 0 rfl) ?_
            refine lv_if_eq (tgt := 136) hx hb dX8_copies_124 (by decide) (fun c_124_51 => ?_) (fun c_124_51 => ?_)
            · have t_124_51 := c_124_51
              try simp only [kb_eq0, kb_ne0, lg_cmp_lt, lg_cmp_le, lg_cmp_gt, lg_cmp_ge, lg_cmp_eq] at t_124_51
              try simp only [Int32.lt_iff_toInt_lt, Int32.le_iff_toInt_le, ← Int32.toInt_inj, Int64.lt_iff_toInt_lt, Int64.le_iff_toInt_le, ← Int64.toInt_inj, Int32.toInt_toInt64, Int32.reduceToInt, Int64.reduceToInt] at t_124_51
              refine lv_aload_n hx hb dX8_copies_136 rfl (lv_at hl 1 rfl) ?_
              refine va_get (D := D) (ci := 8) (v := .int 3) (C := RX8) (T := TX8) (N := 31) hx hb hts iX8_copies_X8 hown hK hP 0 rfl rfl 12 (by decide) (hts (.fieldLink RX8 43 "TapeCalculatorModel" "chosen" "I") (List.mem_of_getElem? (i := 1) rfl)) (fun _ h9 => h9) rfl dX8_copies_137 ?_
              refine lv_iconst (v := 1) hx hb dX8_copies_140 (by decide) ?_
              refine lv_isub hx hb dX8_copies_141 ?_
              refine lv_topi (fun x_53 ex_53 => ?_)
              obtain rfl : x_53 = 2 := ex_53.trans (by decide)
              refine lv_istore_n (lv' := [(2, .int 2), (1, .int 0), (0, .ref m0)]) hx hb dX8_copies_142 rfl hl (by decide) rfl (fun ls hl => ?_)
              refine lv_iload_n hx hb dX8_copies_143 rfl (lv_at hl 1 rfl) ?_
              refine lv_if_eq (tgt := 158) hx hb dX8_copies_144 (by decide) (fun c_144_53 => ?_) (fun c_144_53 => ?_)
              · have t_144_53 := c_144_53
                try simp only [kb_eq0, kb_ne0, lg_cmp_lt, lg_cmp_le, lg_cmp_gt, lg_cmp_ge, lg_cmp_eq] at t_144_53
                try simp only [Int32.lt_iff_toInt_lt, Int32.le_iff_toInt_le, ← Int32.toInt_inj, Int64.lt_iff_toInt_lt, Int64.le_iff_toInt_le, ← Int64.toInt_inj, Int32.toInt_toInt64, Int32.reduceToInt, Int64.reduceToInt] at t_144_53
                refine lv_aload_n hx hb dX8_copies_158 rfl (lv_at hl 2 rfl) ?_
                refine va_get (D := D) (ci := 8) (v := .ref mS) (C := RX8) (T := TX8) (N := 31) hx hb hts iX8_copies_X8 hown hK hP 0 rfl rfl 16 (by decide) (hts (.fieldLink RX8 20 "TapeCalculatorModel" "stands" "[I") (List.mem_of_getElem? (i := 5) rfl)) (fun _ h9 => h9) rfl dX8_copies_159 ?_
                refine lv_iload_n hx hb dX8_copies_162 rfl (lv_at hl 0 rfl) ?_
                refine va_iald hx hb hK hP 4 0 rfl rfl (vp_in_iff.mpr (by decide)) dX8_copies_163 ?_
                refine lv_topi (fun x_55 ex_55 => ?_)
                obtain rfl : s2 = x_55 := ex_55.symm
                refine lv_istore_n (lv' := [(3, .int s2), (2, .int 2), (1, .int 0), (0, .ref m0)]) hx hb dX8_copies_164 rfl hl (by decide) rfl (fun ls hl => ?_)
                have J230 : ∀ (vv : Int64) (st : Int32), jT_ st j2 → ∀ (H : Heap) (locs : List Loc), va_P D vwCl [(m0, .inr (8, [.ref mH, .int aM, .long aC, .int mM, .long mQ, .int oV, .int pL, .int lI, .int sW, .int dP, .int sT, .long aT, .int 3, .int iW, .ref mI, .ref mJ, .ref mS, .ref mD, .int iH, .int aE, .int mN, .long sZ, .ref mX, .int tS, .int tA, .int tW, .ref mA, .ref mB, .ref mW, .ref mL, .int lS])), (mH, .inl (cI, 512, .inl fH)), (mI, .inl (cL, 1200, .inr (.inl fI))), (mJ, .inl (cI, 4, .inl (k4i j0 j1 j2 j3))), (mS, .inl (cI, 4, .inl (k4i s0 s1 st s3))), (mD, .inl (cL, 256, .inr (.inl fD)))] H → va_D A [(m0, .inr (8, [.ref mH, .int aM, .long aC, .int mM, .long mQ, .int oV, .int pL, .int lI, .int sW, .int dP, .int sT, .long aT, .int 3, .int iW, .ref mI, .ref mJ, .ref mS, .ref mD, .int iH, .int aE, .int mN, .long sZ, .ref mX, .int tS, .int tA, .int tW, .ref mA, .ref mB, .ref mW, .ref mL, .int lS])), (mH, .inl (cI, 512, .inl fH)), (mI, .inl (cL, 1200, .inr (.inl fI))), (mJ, .inl (cI, 4, .inl (k4i j0 j1 j2 j3))), (mS, .inl (cI, 4, .inl (k4i s0 s1 st s3))), (mD, .inl (cL, 256, .inr (.inl fD)))] → va_S A s.heap H locs → ∀ ls : Array Slot, lv_has ls 6 [(4, .long vv), (3, .int s2), (2, .int 2), (1, .int 0), (0, .ref m0)] → W p l e ({ frames := 2, cells := 0, slots := 0, locals := 45 }) s m args below meth c H locs 0 0 (MQ below (kQ (S := (Int32 × Int32 × Int32 × Int32 × (Nat → Int32) × (Nat → Int64) × (Nat → Int64) × Int32 × Int32 × Int32 × Int32 × Int32 × Int32 × Int32 × Int32)) eI (fun r u => (0 ≤ r.toInt ∧ r.toInt ≤ 6) ∧ jP_ (u.1) ∧ jD_ (u.2.1) ∧ jC_ (u.2.2.1) ∧ jW_ (u.2.2.2.1) (u.2.2.1) ∧ jT_ (u.2.2.2.2.2.2.2.2.2.2.2.1) (u.2.2.2.2.2.2.2.1) ∧ jT_ (u.2.2.2.2.2.2.2.2.2.2.2.2.1) (u.2.2.2.2.2.2.2.2.1) ∧ jT_ (u.2.2.2.2.2.2.2.2.2.2.2.2.2.1) (u.2.2.2.2.2.2.2.2.2.1) ∧ jT_ (u.2.2.2.2.2.2.2.2.2.2.2.2.2.2) (u.2.2.2.2.2.2.2.2.2.2.1)) D (fun u => [(m0, .inr (8, [.ref mH, .int aM, .long aC, .int mM, .long mQ, .int oV, .int u.1, .int lI, .int sW, .int u.2.1, .int sT, .long aT, .int u.2.2.1, .int u.2.2.2.1, .ref mI, .ref mJ, .ref mS, .ref mD, .int iH, .int aE, .int mN, .long sZ, .ref mX, .int tS, .int tA, .int tW, .ref mA, .ref mB, .ref mW, .ref mL, .int lS])), (mH, .inl (cI, 512, .inl u.2.2.2.2.1)), (mI, .inl (cL, 1200, .inr (.inl u.2.2.2.2.2.2.1))), (mJ, .inl (cI, 4, .inl (k4i u.2.2.2.2.2.2.2.1 u.2.2.2.2.2.2.2.2.1 u.2.2.2.2.2.2.2.2.2.1 u.2.2.2.2.2.2.2.2.2.2.1))), (mS, .inl (cI, 4, .inl (k4i u.2.2.2.2.2.2.2.2.2.2.2.1 u.2.2.2.2.2.2.2.2.2.2.2.2.1 u.2.2.2.2.2.2.2.2.2.2.2.2.2.1 u.2.2.2.2.2.2.2.2.2.2.2.2.2.2))), (mD, .inl (cL, 256, .inr (.inl u.2.2.2.2.2.1)))]) A) args s 0 0 A) (F0 m 230 ls []) := by
                  intro vv st hst H locs hP hD hS ls hl
                  refine lv_lload hx hb dX8_copies_230 (lv_at hl 0 rfl) ?_
                  refine lv_lconst (v := 0) hx hb dX8_copies_232 (by decide) ?_
                  refine W.lcmp hx hb dX8_copies_233 ?_
                  refine lv_if_lt (tgt := 246) hx hb dX8_copies_234 (by decide) (fun c_234_55 => ?_) (fun c_234_55 => ?_)
                  · have t_234_55 := c_234_55
                    try simp only [kb_eq0, kb_ne0, lg_cmp_lt, lg_cmp_le, lg_cmp_gt, lg_cmp_ge, lg_cmp_eq] at t_234_55
                    try simp only [Int32.lt_iff_toInt_lt, Int32.le_iff_toInt_le, ← Int32.toInt_inj, Int64.lt_iff_toInt_lt, Int64.le_iff_toInt_le, ← Int64.toInt_inj, Int32.toInt_toInt64, Int32.reduceToInt, Int64.reduceToInt] at t_234_55
                    refine lv_aload_n hx hb dX8_copies_246 rfl (lv_at hl 4 rfl) ?_
                    refine lv_iconst (v := 0) hx hb dX8_copies_247 (by decide) ?_
                    refine va_put (D := D) (ci := 8) (v := .int 0) (ty := .int) (C := RX8) (T := TX8) (N := 31) hx hb hts iX8_copies_X8 tyX8 tyX8_ok nmX8 hown hK hP hD hS 0 rfl rfl 12 (by decide) (hts (.fieldLink RX8 43 "TapeCalculatorModel" "chosen" "I") (List.mem_of_getElem? (i := 1) rfl)) (fun _ h9 => h9) rfl (by decide +kernel) rfl rfl (Nat.le_of_ble_eq_true rfl) dX8_copies_248 (fun H locs hP hD hS => ?_)
                    have hP : va_P D vwCl [(m0, .inr (8, [.ref mH, .int aM, .long aC, .int mM, .long mQ, .int oV, .int pL, .int lI, .int sW, .int dP, .int sT, .long aT, .int 0, .int iW, .ref mI, .ref mJ, .ref mS, .ref mD, .int iH, .int aE, .int mN, .long sZ, .ref mX, .int tS, .int tA, .int tW, .ref mA, .ref mB, .ref mW, .ref mL, .int lS])), (mH, .inl (cI, 512, .inl fH)), (mI, .inl (cL, 1200, .inr (.inl fI))), (mJ, .inl (cI, 4, .inl (k4i j0 j1 j2 j3))), (mS, .inl (cI, 4, .inl (k4i s0 s1 st s3))), (mD, .inl (cL, 256, .inr (.inl fD)))] H := hP
                    have hD : va_D A [(m0, .inr (8, [.ref mH, .int aM, .long aC, .int mM, .long mQ, .int oV, .int pL, .int lI, .int sW, .int dP, .int sT, .long aT, .int 0, .int iW, .ref mI, .ref mJ, .ref mS, .ref mD, .int iH, .int aE, .int mN, .long sZ, .ref mX, .int tS, .int tA, .int tW, .ref mA, .ref mB, .ref mW, .ref mL, .int lS])), (mH, .inl (cI, 512, .inl fH)), (mI, .inl (cL, 1200, .inr (.inl fI))), (mJ, .inl (cI, 4, .inl (k4i j0 j1 j2 j3))), (mS, .inl (cI, 4, .inl (k4i s0 s1 st s3))), (mD, .inl (cL, 256, .inr (.inl fD)))] := hD
                    refine lv_aload_n hx hb dX8_copies_251 rfl (lv_at hl 4 rfl) ?_
                    refine lv_lload hx hb dX8_copies_252 (lv_at hl 0 rfl) ?_
                    refine lv_ldc2 (v := (-2)) hx hb hown (hts (.constantLong RX8 111 (-2)) (List.mem_of_getElem? (i := 9) rfl)) dX8_copies_254 ?_
                    refine W.lcmp hx hb dX8_copies_257 ?_
                    refine lv_if_ne (tgt := 265) hx hb dX8_copies_258 (by decide) (fun c_258_56 => ?_) (fun c_258_56 => ?_)
                    · have t_258_56 := c_258_56
                      try simp only [kb_eq0, kb_ne0, lg_cmp_lt, lg_cmp_le, lg_cmp_gt, lg_cmp_ge, lg_cmp_eq] at t_258_56
                      try simp only [Int32.lt_iff_toInt_lt, Int32.le_iff_toInt_le, ← Int32.toInt_inj, Int64.lt_iff_toInt_lt, Int64.le_iff_toInt_le, ← Int64.toInt_inj, Int32.toInt_toInt64, Int32.reduceToInt, Int64.reduceToInt] at t_258_56
                      refine lv_iconst (v := 1) hx hb dX8_copies_265 (by decide) ?_
                      refine kCallVd (wr := [(mH, .inl (cI, 512, .inl fH)), (mI, .inl (cL, 1200, .inr (.inl fI))), (mJ, .inl (cI, 4, .inl (k4i j0 j1 j2 j3))), (mS, .inl (cI, 4, .inl (k4i s0 s1 st s3))), (mD, .inl (cL, 256, .inr (.inl fD)))]) (va_runV (As := [.int 1]) (rest := []) ⟨hx, hb, hml, hown, hts⟩ (q_go l D cI cL cB cZ cT _ m0 mH mI mJ mS mD mX mA mB mW mL aM aC mM mQ oV pL lI sW dP sT aT 0 iW iH aE mN sZ tS tA tW lS 1) (cwV 1 hts gX8_copies_X8_go rfl rfl rfl (by decide +kernel) ⟨Nat.le_of_ble_eq_true rfl, Nat.le_of_ble_eq_true rfl⟩) (kPreV hG hP hD [0] rfl (by decide) 0 8 rfl rfl rfl) rfl rfl hl.1 rfl (lv_room (Nat.le_of_ble_eq_true rfl)) dX8_copies_266 ⟨Nat.le_of_ble_eq_true rfl, Nat.le_of_ble_eq_true rfl⟩) hA hP hD hS [0] [1, 2, 3, 4, 5] rfl rfl (by decide) (by decide) (fun _ u_r_58 H locs wr_58 hP hD hS => ?_)
                      have hP : va_P D vwCl [(mH, .inl (cI, 512, .inl fH)), (mI, .inl (cL, 1200, .inr (.inl fI))), (mJ, .inl (cI, 4, .inl (k4i j0 j1 j2 j3))), (mS, .inl (cI, 4, .inl (k4i s0 s1 st s3))), (mD, .inl (cL, 256, .inr (.inl fD))), (m0, .inr (8, [.ref mH, .int aM, .long aC, .int mM, .long mQ, .int oV, .int u_r_58, .int lI, .int sW, .int dP, .int sT, .long aT, .int 0, .int iW, .ref mI, .ref mJ, .ref mS, .ref mD, .int iH, .int aE, .int mN, .long sZ, .ref mX, .int tS, .int tA, .int tW, .ref mA, .ref mB, .ref mW, .ref mL, .int lS]))] H := hP
                      have hD : va_D A [(mH, .inl (cI, 512, .inl fH)), (mI, .inl (cL, 1200, .inr (.inl fI))), (mJ, .inl (cI, 4, .inl (k4i j0 j1 j2 j3))), (mS, .inl (cI, 4, .inl (k4i s0 s1 st s3))), (mD, .inl (cL, 256, .inr (.inl fD))), (m0, .inr (8, [.ref mH, .int aM, .long aC, .int mM, .long mQ, .int oV, .int u_r_58, .int lI, .int sW, .int dP, .int sT, .long aT, .int 0, .int iW, .ref mI, .ref mJ, .ref mS, .ref mD, .int iH, .int aE, .int mN, .long sZ, .ref mX, .int tS, .int tA, .int tW, .ref mA, .ref mB, .ref mW, .ref mL, .int lS]))] := hD
                      try dsimp only at wr_58
                      try simp only [Int32.reduceToInt, Int64.reduceToInt] at wr_58
                      refine lv_iconst (v := 0) hx hb dX8_copies_269 (by decide) ?_
                      refine kIret (u := (u_r_58, dP, 0, iW, fH, fD, fI, j0, j1, j2, j3, s0, s1, st, s3)) hx hb hr rfl hlocks hS dX8_copies_270 ?_ (hP.sub [5, 0, 1, 2, 3, 4] rfl) (hD.sub [5, 0, 1, 2, 3, 4] (by decide) rfl)
                      try dsimp only
                      repeat' (with_reducible apply And.intro)
                      all_goals first | with_reducible assumption | ((try simp only [jT_, jP_, jD_, jC_, jB_, jW_, Int32.reduceToInt, Int64.reduceToInt, true_or, or_true, true_and, and_true]) <;> omega)
                    · have t_258_56 := c_258_56
                      try simp only [kb_eq0, kb_ne0, lg_cmp_lt, lg_cmp_le, lg_cmp_gt, lg_cmp_ge, lg_cmp_eq] at t_258_56
                      try simp only [Int32.lt_iff_toInt_lt, Int32.le_iff_toInt_le, ← Int32.toInt_inj, Int64.lt_iff_toInt_lt, Int64.le_iff_toInt_le, ← Int64.toInt_inj, Int32.toInt_toInt64, Int32.reduceToInt, Int64.reduceToInt] at t_258_56
                      refine lv_iconst (v := 2) hx hb dX8_copies_261 (by decide) ?_
                      refine lv_goto (tgt := 266) hx hb dX8_copies_262 (by decide) ?_
                      refine kCallVd (wr := [(mH, .inl (cI, 512, .inl fH)), (mI, .inl (cL, 1200, .inr (.inl fI))), (mJ, .inl (cI, 4, .inl (k4i j0 j1 j2 j3))), (mS, .inl (cI, 4, .inl (k4i s0 s1 st s3))), (mD, .inl (cL, 256, .inr (.inl fD)))]) (va_runV (As := [.int 2]) (rest := []) ⟨hx, hb, hml, hown, hts⟩ (q_go l D cI cL cB cZ cT _ m0 mH mI mJ mS mD mX mA mB mW mL aM aC mM mQ oV pL lI sW dP sT aT 0 iW iH aE mN sZ tS tA tW lS 2) (cwV 1 hts gX8_copies_X8_go rfl rfl rfl (by decide +kernel) ⟨Nat.le_of_ble_eq_true rfl, Nat.le_of_ble_eq_true rfl⟩) (kPreV hG hP hD [0] rfl (by decide) 0 8 rfl rfl rfl) rfl rfl hl.1 rfl (lv_room (Nat.le_of_ble_eq_true rfl)) dX8_copies_266 ⟨Nat.le_of_ble_eq_true rfl, Nat.le_of_ble_eq_true rfl⟩) hA hP hD hS [0] [1, 2, 3, 4, 5] rfl rfl (by decide) (by decide) (fun _ u_r_59 H locs wr_59 hP hD hS => ?_)
                      have hP : va_P D vwCl [(mH, .inl (cI, 512, .inl fH)), (mI, .inl (cL, 1200, .inr (.inl fI))), (mJ, .inl (cI, 4, .inl (k4i j0 j1 j2 j3))), (mS, .inl (cI, 4, .inl (k4i s0 s1 st s3))), (mD, .inl (cL, 256, .inr (.inl fD))), (m0, .inr (8, [.ref mH, .int aM, .long aC, .int mM, .long mQ, .int oV, .int u_r_59, .int lI, .int sW, .int dP, .int sT, .long aT, .int 0, .int iW, .ref mI, .ref mJ, .ref mS, .ref mD, .int iH, .int aE, .int mN, .long sZ, .ref mX, .int tS, .int tA, .int tW, .ref mA, .ref mB, .ref mW, .ref mL, .int lS]))] H := hP
                      have hD : va_D A [(mH, .inl (cI, 512, .inl fH)), (mI, .inl (cL, 1200, .inr (.inl fI))), (mJ, .inl (cI, 4, .inl (k4i j0 j1 j2 j3))), (mS, .inl (cI, 4, .inl (k4i s0 s1 st s3))), (mD, .inl (cL, 256, .inr (.inl fD))), (m0, .inr (8, [.ref mH, .int aM, .long aC, .int mM, .long mQ, .int oV, .int u_r_59, .int lI, .int sW, .int dP, .int sT, .long aT, .int 0, .int iW, .ref mI, .ref mJ, .ref mS, .ref mD, .int iH, .int aE, .int mN, .long sZ, .ref mX, .int tS, .int tA, .int tW, .ref mA, .ref mB, .ref mW, .ref mL, .int lS]))] := hD
                      try dsimp only at wr_59
                      try simp only [Int32.reduceToInt, Int64.reduceToInt] at wr_59
                      refine lv_iconst (v := 0) hx hb dX8_copies_269 (by decide) ?_
                      refine kIret (u := (u_r_59, dP, 0, iW, fH, fD, fI, j0, j1, j2, j3, s0, s1, st, s3)) hx hb hr rfl hlocks hS dX8_copies_270 ?_ (hP.sub [5, 0, 1, 2, 3, 4] rfl) (hD.sub [5, 0, 1, 2, 3, 4] (by decide) rfl)
                      try dsimp only
                      repeat' (with_reducible apply And.intro)
                      all_goals first | with_reducible assumption | ((try simp only [jT_, jP_, jD_, jC_, jB_, jW_, Int32.reduceToInt, Int64.reduceToInt, true_or, or_true, true_and, and_true]) <;> omega)
                  · have t_234_55 := c_234_55
                    try simp only [kb_eq0, kb_ne0, lg_cmp_lt, lg_cmp_le, lg_cmp_gt, lg_cmp_ge, lg_cmp_eq] at t_234_55
                    try simp only [Int32.lt_iff_toInt_lt, Int32.le_iff_toInt_le, ← Int32.toInt_inj, Int64.lt_iff_toInt_lt, Int64.le_iff_toInt_le, ← Int64.toInt_inj, Int32.toInt_toInt64, Int32.reduceToInt, Int64.reduceToInt] at t_234_55
                    refine lv_aload_n hx hb dX8_copies_237 rfl (lv_at hl 4 rfl) ?_
                    refine lv_lload hx hb dX8_copies_238 (lv_at hl 0 rfl) ?_
                    refine kCallVd (wr := [(mI, .inl (cL, 1200, .inr (.inl fI))), (mJ, .inl (cI, 4, .inl (k4i j0 j1 j2 j3))), (mS, .inl (cI, 4, .inl (k4i s0 s1 st s3))), (mD, .inl (cL, 256, .inr (.inl fD)))]) (va_runV (As := [.long vv]) (rest := []) ⟨hx, hb, hml, hown, hts⟩ (q_store l D cI cL cB cZ cT _ m0 mH mI mJ mS mD mX mA mB mW mL aM aC mM mQ oV pL lI sW dP sT aT 3 iW iH aE mN sZ tS tA tW lS fH vv (by omega)) (cwV 1 hts gX8_copies_X8_store rfl rfl rfl (by decide +kernel) ⟨Nat.le_of_ble_eq_true rfl, Nat.le_of_ble_eq_true rfl⟩) (kPreV hG hP hD [0, 1] rfl (by decide) 0 8 rfl rfl rfl) rfl rfl hl.1 rfl (lv_room (Nat.le_of_ble_eq_true rfl)) dX8_copies_240 ⟨Nat.le_of_ble_eq_true rfl, Nat.le_of_ble_eq_true rfl⟩) hA hP hD hS [0, 1] [2, 3, 4, 5] rfl rfl (by decide) (by decide) (fun _ u_r_60 H locs wr_60 hP hD hS => ?_)
                    have hP : va_P D vwCl [(mI, .inl (cL, 1200, .inr (.inl fI))), (mJ, .inl (cI, 4, .inl (k4i j0 j1 j2 j3))), (mS, .inl (cI, 4, .inl (k4i s0 s1 st s3))), (mD, .inl (cL, 256, .inr (.inl fD))), (m0, .inr (8, [.ref mH, .int aM, .long aC, .int mM, .long mQ, .int oV, .int pL, .int lI, .int sW, .int dP, .int sT, .long aT, .int 3, .int iW, .ref mI, .ref mJ, .ref mS, .ref mD, .int iH, .int aE, .int mN, .long sZ, .ref mX, .int tS, .int tA, .int tW, .ref mA, .ref mB, .ref mW, .ref mL, .int lS])), (mH, .inl (cI, 512, .inl u_r_60))] H := hP
                    have hD : va_D A [(mI, .inl (cL, 1200, .inr (.inl fI))), (mJ, .inl (cI, 4, .inl (k4i j0 j1 j2 j3))), (mS, .inl (cI, 4, .inl (k4i s0 s1 st s3))), (mD, .inl (cL, 256, .inr (.inl fD))), (m0, .inr (8, [.ref mH, .int aM, .long aC, .int mM, .long mQ, .int oV, .int pL, .int lI, .int sW, .int dP, .int sT, .long aT, .int 3, .int iW, .ref mI, .ref mJ, .ref mS, .ref mD, .int iH, .int aE, .int mN, .long sZ, .ref mX, .int tS, .int tA, .int tW, .ref mA, .ref mB, .ref mW, .ref mL, .int lS])), (mH, .inl (cI, 512, .inl u_r_60))] := hD
                    try dsimp only at wr_60
                    try simp only [Int32.reduceToInt, Int64.reduceToInt] at wr_60
                    refine lv_goto (tgt := 269) hx hb dX8_copies_243 (by decide) ?_
                    refine lv_iconst (v := 0) hx hb dX8_copies_269 (by decide) ?_
                    refine kIret (u := (pL, dP, 3, iW, u_r_60, fD, fI, j0, j1, j2, j3, s0, s1, st, s3)) hx hb hr rfl hlocks hS dX8_copies_270 ?_ (hP.sub [4, 5, 0, 1, 2, 3] rfl) (hD.sub [4, 5, 0, 1, 2, 3] (by decide) rfl)
                    try dsimp only
                    repeat' (with_reducible apply And.intro)
                    all_goals first | with_reducible assumption | ((try simp only [jT_, jP_, jD_, jC_, jB_, jW_, Int32.reduceToInt, Int64.reduceToInt, true_or, or_true, true_and, and_true]) <;> omega)
                refine lv_iload_n hx hb dX8_copies_165 rfl (lv_at hl 0 rfl) ?_
                refine lv_i2l hx hb dX8_copies_166 rfl ?_
                refine lv_lconst (v := 0) hx hb dX8_copies_167 (by decide) ?_
                refine lv_aload_n hx hb dX8_copies_168 rfl (lv_at hl 3 rfl) ?_
                refine va_get (D := D) (ci := 8) (v := .ref mJ) (C := RX8) (T := TX8) (N := 31) hx hb hts iX8_copies_X8 hown hK hP 0 rfl rfl 15 (by decide) (hts (.fieldLink RX8 17 "TapeCalculatorModel" "items" "[I") (List.mem_of_getElem? (i := 6) rfl)) (fun _ h9 => h9) rfl dX8_copies_169 ?_
                refine lv_iload_n hx hb dX8_copies_172 rfl (lv_at hl 1 rfl) ?_
                refine va_iald hx hb hK hP 3 0 rfl rfl (vp_in_iff.mpr (by decide)) dX8_copies_173 ?_
                refine lv_topi (fun x_61 ex_61 => ?_)
                obtain rfl : j2 = x_61 := ex_61.symm
                refine lv_iconst (v := 1) hx hb dX8_copies_174 (by decide) ?_
                refine lv_isub hx hb dX8_copies_175 ?_
                refine lv_i2l hx hb dX8_copies_176 rfl ?_
                refine kCallI (wr := [(m0, .inr (8, [.ref mH, .int aM, .long aC, .int mM, .long mQ, .int oV, .int pL, .int lI, .int sW, .int dP, .int sT, .long aT, .int 3, .int iW, .ref mI, .ref mJ, .ref mS, .ref mD, .int iH, .int aE, .int mN, .long sZ, .ref mX, .int tS, .int tA, .int tW, .ref mA, .ref mB, .ref mW, .ref mL, .int lS])), (mH, .inl (cI, 512, .inl fH)), (mI, .inl (cL, 1200, .inr (.inl fI))), (mJ, .inl (cI, 4, .inl (k4i j0 j1 j2 j3))), (mS, .inl (cI, 4, .inl (k4i s0 s1 s2 s3))), (mD, .inl (cL, 256, .inr (.inl fD)))]) (va_runS (As := [.long s2.toInt64, .long 0, .long (j2 - 1).toInt64]) (rest := []) ⟨hx, hb, hml, hown, hts⟩ (q_in l D cI cL cB cZ cT _ (s2.toInt64) 0 (j2 - 1).toInt64) (va_cwS 3 hts gX8_copies_X8_in rfl rfl rfl (by decide +kernel) ⟨Nat.le_of_ble_eq_true rfl, Nat.le_of_ble_eq_true rfl⟩) (kPreS hG hP hD [] rfl (by decide)) rfl rfl hl.1 rfl (lv_room (Nat.le_of_ble_eq_true rfl)) dX8_copies_177 ⟨Nat.le_of_ble_eq_true rfl, Nat.le_of_ble_eq_true rfl⟩) hA hP hD hS [] [0, 1, 2, 3, 4, 5] rfl rfl (by decide) (by decide) (fun r_62 u_r_62 H locs wr_62 hP hD hS => ?_)
                have hP : va_P D vwCl [(m0, .inr (8, [.ref mH, .int aM, .long aC, .int mM, .long mQ, .int oV, .int pL, .int lI, .int sW, .int dP, .int sT, .long aT, .int 3, .int iW, .ref mI, .ref mJ, .ref mS, .ref mD, .int iH, .int aE, .int mN, .long sZ, .ref mX, .int tS, .int tA, .int tW, .ref mA, .ref mB, .ref mW, .ref mL, .int lS])), (mH, .inl (cI, 512, .inl fH)), (mI, .inl (cL, 1200, .inr (.inl fI))), (mJ, .inl (cI, 4, .inl (k4i j0 j1 j2 j3))), (mS, .inl (cI, 4, .inl (k4i s0 s1 s2 s3))), (mD, .inl (cL, 256, .inr (.inl fD)))] H := hP
                have hD : va_D A [(m0, .inr (8, [.ref mH, .int aM, .long aC, .int mM, .long mQ, .int oV, .int pL, .int lI, .int sW, .int dP, .int sT, .long aT, .int 3, .int iW, .ref mI, .ref mJ, .ref mS, .ref mD, .int iH, .int aE, .int mN, .long sZ, .ref mX, .int tS, .int tA, .int tW, .ref mA, .ref mB, .ref mW, .ref mL, .int lS])), (mH, .inl (cI, 512, .inl fH)), (mI, .inl (cL, 1200, .inr (.inl fI))), (mJ, .inl (cI, 4, .inl (k4i j0 j1 j2 j3))), (mS, .inl (cI, 4, .inl (k4i s0 s1 s2 s3))), (mD, .inl (cL, 256, .inr (.inl fD)))] := hD
                try dsimp only at wr_62
                subst wr_62
                refine lv_if_eq (tgt := 198) hx hb dX8_copies_180 (by decide) (fun c_180_62 => ?_) (fun c_180_62 => ?_)
                · have t_180_62 := c_180_62
                  try simp only [kb_eq0, kb_ne0, lg_cmp_lt, lg_cmp_le, lg_cmp_gt, lg_cmp_ge, lg_cmp_eq] at t_180_62
                  try simp only [Int32.lt_iff_toInt_lt, Int32.le_iff_toInt_le, ← Int32.toInt_inj, Int64.lt_iff_toInt_lt, Int64.le_iff_toInt_le, ← Int64.toInt_inj, Int32.toInt_toInt64, Int32.reduceToInt, Int64.reduceToInt] at t_180_62
                  refine lv_ldc2 (v := (-9)) hx hb hown (hts (.constantLong RX8 107 (-9)) (List.mem_of_getElem? (i := 8) rfl)) dX8_copies_198 ?_
                  refine lv_lstore (lv' := [(4, .long (-9)), (3, .int s2), (2, .int 2), (1, .int 0), (0, .ref m0)]) hx hb dX8_copies_201 hl (by decide) rfl (fun ls hl => ?_)
                  refine lv_lload hx hb dX8_copies_203 (lv_at hl 0 rfl) ?_
                  refine lv_ldc2 (v := (-9)) hx hb hown (hts (.constantLong RX8 107 (-9)) (List.mem_of_getElem? (i := 8) rfl)) dX8_copies_205 ?_
                  refine W.lcmp hx hb dX8_copies_208 ?_
                  refine lv_topi (fun x_64 ex_64 => ?_)
                  obtain rfl : x_64 = 0 := ex_64.trans (by decide)
                  refine lv_if_eq (tgt := 230) hx hb dX8_copies_209 (by decide) (fun c_209_64 => ?_) (fun c_209_64 => ?_)
                  · have t_209_64 := c_209_64
                    try simp only [kb_eq0, kb_ne0, lg_cmp_lt, lg_cmp_le, lg_cmp_gt, lg_cmp_ge, lg_cmp_eq] at t_209_64
                    try simp only [Int32.lt_iff_toInt_lt, Int32.le_iff_toInt_le, ← Int32.toInt_inj, Int64.lt_iff_toInt_lt, Int64.le_iff_toInt_le, ← Int64.toInt_inj, Int32.toInt_toInt64, Int32.reduceToInt, Int64.reduceToInt] at t_209_64
                    exact J230 (-9) s2 (by first | with_reducible assumption | ((try simp only [jT_, jP_, jD_, jC_, jB_, jW_, Int32.reduceToInt, Int64.reduceToInt, true_or, or_true, true_and, and_true]) <;> omega)) _ _ (hP.sub [0, 1, 2, 3, 4, 5] rfl) (hD.sub [0, 1, 2, 3, 4, 5] (by decide) rfl) hS ls (lv_sub hl [0, 1, 2, 3, 4] rfl)
                  · exact absurd (by decide) c_209_64
                · have t_180_62 := c_180_62
                  try simp only [kb_eq0, kb_ne0, lg_cmp_lt, lg_cmp_le, lg_cmp_gt, lg_cmp_ge, lg_cmp_eq] at t_180_62
                  try simp only [Int32.lt_iff_toInt_lt, Int32.le_iff_toInt_le, ← Int32.toInt_inj, Int64.lt_iff_toInt_lt, Int64.le_iff_toInt_le, ← Int64.toInt_inj, Int32.toInt_toInt64, Int32.reduceToInt, Int64.reduceToInt] at t_180_62
                  refine lv_aload_n hx hb dX8_copies_183 rfl (lv_at hl 3 rfl) ?_
                  refine va_get (D := D) (ci := 8) (v := .ref mI) (C := RX8) (T := TX8) (N := 31) hx hb hts iX8_copies_X8 hown hK hP 0 rfl rfl 14 (by decide) (hts (.fieldLink RX8 13 "TapeCalculatorModel" "item" "[J") (List.mem_of_getElem? (i := 7) rfl)) (fun _ h9 => h9) rfl dX8_copies_184 ?_
                  refine lv_sipush (v := 300) hx hb dX8_copies_187 (by decide) ?_
                  refine lv_iload_n hx hb dX8_copies_190 rfl (lv_at hl 1 rfl) ?_
                  refine lv_imul hx hb dX8_copies_191 ?_
                  refine lv_topi (fun x_66 ex_66 => ?_)
                  obtain rfl : x_66 = 600 := ex_66.trans (by decide)
                  refine lv_iload_n hx hb dX8_copies_192 rfl (lv_at hl 0 rfl) ?_
                  refine lv_iadd hx hb dX8_copies_193 ?_
                  refine va_lald hx hb hK hP 2 1 rfl rfl (vp_in_iff.mpr (by have hx9 := k_addg (a := 600) (b := s2) (by decide) (by omega); simp only [Int32.reduceToInt] at hx9; omega)) dX8_copies_194 ?_
                  refine lv_goto (tgt := 201) hx hb dX8_copies_195 (by decide) ?_
                  refine lv_topl (fun x_67 ex_67 => ?_)
                  refine lv_lstore (lv' := [(4, .long x_67), (3, .int s2), (2, .int 2), (1, .int 0), (0, .ref m0)]) hx hb dX8_copies_201 hl (by decide) rfl (fun ls hl => ?_)
                  refine lv_lload hx hb dX8_copies_203 (lv_at hl 0 rfl) ?_
                  refine lv_ldc2 (v := (-9)) hx hb hown (hts (.constantLong RX8 107 (-9)) (List.mem_of_getElem? (i := 8) rfl)) dX8_copies_205 ?_
                  refine W.lcmp hx hb dX8_copies_208 ?_
                  refine lv_if_eq (tgt := 230) hx hb dX8_copies_209 (by decide) (fun c_209_67 => ?_) (fun c_209_67 => ?_)
                  · have t_209_67 := c_209_67
                    try simp only [kb_eq0, kb_ne0, lg_cmp_lt, lg_cmp_le, lg_cmp_gt, lg_cmp_ge, lg_cmp_eq] at t_209_67
                    try simp only [Int32.lt_iff_toInt_lt, Int32.le_iff_toInt_le, ← Int32.toInt_inj, Int64.lt_iff_toInt_lt, Int64.le_iff_toInt_le, ← Int64.toInt_inj, Int32.toInt_toInt64, Int32.reduceToInt, Int64.reduceToInt] at t_209_67
                    exact J230 x_67 s2 (by first | with_reducible assumption | ((try simp only [jT_, jP_, jD_, jC_, jB_, jW_, Int32.reduceToInt, Int64.reduceToInt, true_or, or_true, true_and, and_true]) <;> omega)) _ _ (hP.sub [0, 1, 2, 3, 4, 5] rfl) (hD.sub [0, 1, 2, 3, 4, 5] (by decide) rfl) hS ls (lv_sub hl [0, 1, 2, 3, 4] rfl)
                  · have t_209_67 := c_209_67
                    try simp only [kb_eq0, kb_ne0, lg_cmp_lt, lg_cmp_le, lg_cmp_gt, lg_cmp_ge, lg_cmp_eq] at t_209_67
                    try simp only [Int32.lt_iff_toInt_lt, Int32.le_iff_toInt_le, ← Int32.toInt_inj, Int64.lt_iff_toInt_lt, Int64.le_iff_toInt_le, ← Int64.toInt_inj, Int32.toInt_toInt64, Int32.reduceToInt, Int64.reduceToInt] at t_209_67
                    refine lv_aload_n hx hb dX8_copies_212 rfl (lv_at hl 4 rfl) ?_
                    refine va_get (D := D) (ci := 8) (v := .ref mS) (C := RX8) (T := TX8) (N := 31) hx hb hts iX8_copies_X8 hown hK hP 0 rfl rfl 16 (by decide) (hts (.fieldLink RX8 20 "TapeCalculatorModel" "stands" "[I") (List.mem_of_getElem? (i := 5) rfl)) (fun _ h9 => h9) rfl dX8_copies_213 ?_
                    refine lv_iload_n hx hb dX8_copies_216 rfl (lv_at hl 2 rfl) ?_
                    refine lv_dup2_11 hx hb dX8_copies_217 rfl rfl ?_
                    refine va_iald hx hb hK hP 4 0 rfl rfl (vp_in_iff.mpr (by decide)) dX8_copies_218 ?_
                    refine lv_topi (fun x_69 ex_69 => ?_)
                    obtain rfl : s2 = x_69 := ex_69.symm
                    refine lv_iload_n hx hb dX8_copies_219 rfl (lv_at hl 3 rfl) ?_
                    refine lv_if_eq (tgt := 227) hx hb dX8_copies_220 (by decide) (fun c_220_69 => ?_) (fun c_220_69 => ?_)
                    · have t_220_69 := c_220_69
                      try simp only [kb_eq0, kb_ne0, lg_cmp_lt, lg_cmp_le, lg_cmp_gt, lg_cmp_ge, lg_cmp_eq] at t_220_69
                      try simp only [Int32.lt_iff_toInt_lt, Int32.le_iff_toInt_le, ← Int32.toInt_inj, Int64.lt_iff_toInt_lt, Int64.le_iff_toInt_le, ← Int64.toInt_inj, Int32.toInt_toInt64, Int32.reduceToInt, Int64.reduceToInt] at t_220_69
                      refine lv_iconst (v := 1) hx hb dX8_copies_227 (by decide) ?_
                      refine lv_iadd hx hb dX8_copies_228 ?_
                      refine va_iast hx hb hK hP hD hS 4 0 rfl rfl (vp_in_iff.mpr (by decide)) dX8_copies_229 (fun H locs hP hD hS => ?_)
                      rw [k4i_2] at hP hD
                      have hP : va_P D vwCl [(m0, .inr (8, [.ref mH, .int aM, .long aC, .int mM, .long mQ, .int oV, .int pL, .int lI, .int sW, .int dP, .int sT, .long aT, .int 3, .int iW, .ref mI, .ref mJ, .ref mS, .ref mD, .int iH, .int aE, .int mN, .long sZ, .ref mX, .int tS, .int tA, .int tW, .ref mA, .ref mB, .ref mW, .ref mL, .int lS])), (mH, .inl (cI, 512, .inl fH)), (mI, .inl (cL, 1200, .inr (.inl fI))), (mJ, .inl (cI, 4, .inl (k4i j0 j1 j2 j3))), (mS, .inl (cI, 4, .inl (k4i s0 s1 (s2 + 1) s3))), (mD, .inl (cL, 256, .inr (.inl fD)))] H := hP
                      have hD : va_D A [(m0, .inr (8, [.ref mH, .int aM, .long aC, .int mM, .long mQ, .int oV, .int pL, .int lI, .int sW, .int dP, .int sT, .long aT, .int 3, .int iW, .ref mI, .ref mJ, .ref mS, .ref mD, .int iH, .int aE, .int mN, .long sZ, .ref mX, .int tS, .int tA, .int tW, .ref mA, .ref mB, .ref mW, .ref mL, .int lS])), (mH, .inl (cI, 512, .inl fH)), (mI, .inl (cL, 1200, .inr (.inl fI))), (mJ, .inl (cI, 4, .inl (k4i j0 j1 j2 j3))), (mS, .inl (cI, 4, .inl (k4i s0 s1 (s2 + 1) s3))), (mD, .inl (cL, 256, .inr (.inl fD)))] := hD
                      exact J230 x_67 (s2 + 1) (by first | with_reducible assumption | ((try simp only [jT_, jP_, jD_, jC_, jB_, jW_, Int32.reduceToInt, Int64.reduceToInt, true_or, or_true, true_and, and_true]) <;> omega)) _ _ (hP.sub [0, 1, 2, 3, 4, 5] rfl) (hD.sub [0, 1, 2, 3, 4, 5] (by decide) rfl) hS ls (lv_sub hl [0, 1, 2, 3, 4] rfl)
                    · exact absurd (by decide) c_220_69
              · exact absurd (by decide) c_144_53
            · exact absurd (by decide) c_124_51
          · exact absurd (by decide) c_114_50
        · exact absurd (by decide) c_79_49
      · exact absurd (by decide) c_16_48
    · exact absurd c_4_47 (by decide)
  · have hiw1 : iW.toInt = 0 := by simp only [jW_, Int32.reduceToInt] at hiw; omega
    have hu3 : 0 ≤ s3.toInt ∧ s3.toInt ≤ j3.toInt ∧ j3.toInt ≤ 300 := ht3
    have hs0 := k_sub (a := j3) (b := 1) (by omega) (by decide)
    simp only [Int32.reduceToInt] at hs0
    have hs1 := k_sub (a := s3) (b := 1) (by omega) (by decide)
    simp only [Int32.reduceToInt] at hs1
    have hs2 := k_addg (a := s3) (b := 1) (by omega) (by decide)
    have hs3 := k_addg (a := s3) (b := (-1)) (by omega) (by decide)
    simp only [Int32.reduceToInt, show (-1 : Int32).toInt = -1 from rfl] at hs2 hs3
    refine lv_aload_n hx hb dX8_copies_0 rfl (lv_at hl 0 rfl) ?_
    refine va_get (D := D) (ci := 8) (v := .int 4) (C := RX8) (T := TX8) (N := 31) hx hb hts iX8_copies_X8 hown hK hP 0 rfl rfl 12 (by decide) (hts (.fieldLink RX8 43 "TapeCalculatorModel" "chosen" "I") (List.mem_of_getElem? (i := 1) rfl)) (fun _ h9 => h9) rfl dX8_copies_1 ?_
    refine lv_if_ne (tgt := 10) hx hb dX8_copies_4 (by decide) (fun c_4_70 => ?_) (fun c_4_70 => ?_)
    · have t_4_70 := c_4_70
      try simp only [kb_eq0, kb_ne0, lg_cmp_lt, lg_cmp_le, lg_cmp_gt, lg_cmp_ge, lg_cmp_eq] at t_4_70
      try simp only [Int32.lt_iff_toInt_lt, Int32.le_iff_toInt_le, ← Int32.toInt_inj, Int64.lt_iff_toInt_lt, Int64.le_iff_toInt_le, ← Int64.toInt_inj, Int32.toInt_toInt64, Int32.reduceToInt, Int64.reduceToInt] at t_4_70
      refine lv_aload_n hx hb dX8_copies_10 rfl (lv_at hl 0 rfl) ?_
      refine va_get (D := D) (ci := 8) (v := .int 4) (C := RX8) (T := TX8) (N := 31) hx hb hts iX8_copies_X8 hown hK hP 0 rfl rfl 12 (by decide) (hts (.fieldLink RX8 43 "TapeCalculatorModel" "chosen" "I") (List.mem_of_getElem? (i := 1) rfl)) (fun _ h9 => h9) rfl dX8_copies_11 ?_
      refine lv_bipush (v := 12) hx hb dX8_copies_14 (by decide) ?_
      refine lv_icmp_le (tgt := 73) hx hb dX8_copies_16 (by decide) (fun c_16_71 => ?_) (fun c_16_71 => ?_)
      · have t_16_71 := c_16_71
        try simp only [kb_eq0, kb_ne0, lg_cmp_lt, lg_cmp_le, lg_cmp_gt, lg_cmp_ge, lg_cmp_eq] at t_16_71
        try simp only [Int32.lt_iff_toInt_lt, Int32.le_iff_toInt_le, ← Int32.toInt_inj, Int64.lt_iff_toInt_lt, Int64.le_iff_toInt_le, ← Int64.toInt_inj, Int32.toInt_toInt64, Int32.reduceToInt, Int64.reduceToInt] at t_16_71
        refine lv_aload_n hx hb dX8_copies_73 rfl (lv_at hl 0 rfl) ?_
        refine va_get (D := D) (ci := 8) (v := .int 4) (C := RX8) (T := TX8) (N := 31) hx hb hts iX8_copies_X8 hown hK hP 0 rfl rfl 12 (by decide) (hts (.fieldLink RX8 43 "TapeCalculatorModel" "chosen" "I") (List.mem_of_getElem? (i := 1) rfl)) (fun _ h9 => h9) rfl dX8_copies_74 ?_
        refine lv_bipush (v := 8) hx hb dX8_copies_77 (by decide) ?_
        refine lv_icmp_le (tgt := 109) hx hb dX8_copies_79 (by decide) (fun c_79_72 => ?_) (fun c_79_72 => ?_)
        · have t_79_72 := c_79_72
          try simp only [kb_eq0, kb_ne0, lg_cmp_lt, lg_cmp_le, lg_cmp_gt, lg_cmp_ge, lg_cmp_eq] at t_79_72
          try simp only [Int32.lt_iff_toInt_lt, Int32.le_iff_toInt_le, ← Int32.toInt_inj, Int64.lt_iff_toInt_lt, Int64.le_iff_toInt_le, ← Int64.toInt_inj, Int32.toInt_toInt64, Int32.reduceToInt, Int64.reduceToInt] at t_79_72
          refine lv_aload_n hx hb dX8_copies_109 rfl (lv_at hl 0 rfl) ?_
          refine va_get (D := D) (ci := 8) (v := .int 4) (C := RX8) (T := TX8) (N := 31) hx hb hts iX8_copies_X8 hown hK hP 0 rfl rfl 12 (by decide) (hts (.fieldLink RX8 43 "TapeCalculatorModel" "chosen" "I") (List.mem_of_getElem? (i := 1) rfl)) (fun _ h9 => h9) rfl dX8_copies_110 ?_
          refine lv_iconst (v := 4) hx hb dX8_copies_113 (by decide) ?_
          refine lv_icmp_le (tgt := 121) hx hb dX8_copies_114 (by decide) (fun c_114_73 => ?_) (fun c_114_73 => ?_)
          · have t_114_73 := c_114_73
            try simp only [kb_eq0, kb_ne0, lg_cmp_lt, lg_cmp_le, lg_cmp_gt, lg_cmp_ge, lg_cmp_eq] at t_114_73
            try simp only [Int32.lt_iff_toInt_lt, Int32.le_iff_toInt_le, ← Int32.toInt_inj, Int64.lt_iff_toInt_lt, Int64.le_iff_toInt_le, ← Int64.toInt_inj, Int32.toInt_toInt64, Int32.reduceToInt, Int64.reduceToInt] at t_114_73
            refine lv_iconst (v := 0) hx hb dX8_copies_121 (by decide) ?_
            refine lv_istore_n (lv' := [(1, .int 0), (0, .ref m0)]) hx hb dX8_copies_122 rfl hl (by decide) rfl (fun ls hl => ?_)
            refine lv_iload_n hx hb dX8_copies_123 rfl (lv_at hl 0 rfl) ?_
            refine lv_if_eq (tgt := 136) hx hb dX8_copies_124 (by decide) (fun c_124_74 => ?_) (fun c_124_74 => ?_)
            · have t_124_74 := c_124_74
              try simp only [kb_eq0, kb_ne0, lg_cmp_lt, lg_cmp_le, lg_cmp_gt, lg_cmp_ge, lg_cmp_eq] at t_124_74
              try simp only [Int32.lt_iff_toInt_lt, Int32.le_iff_toInt_le, ← Int32.toInt_inj, Int64.lt_iff_toInt_lt, Int64.le_iff_toInt_le, ← Int64.toInt_inj, Int32.toInt_toInt64, Int32.reduceToInt, Int64.reduceToInt] at t_124_74
              refine lv_aload_n hx hb dX8_copies_136 rfl (lv_at hl 1 rfl) ?_
              refine va_get (D := D) (ci := 8) (v := .int 4) (C := RX8) (T := TX8) (N := 31) hx hb hts iX8_copies_X8 hown hK hP 0 rfl rfl 12 (by decide) (hts (.fieldLink RX8 43 "TapeCalculatorModel" "chosen" "I") (List.mem_of_getElem? (i := 1) rfl)) (fun _ h9 => h9) rfl dX8_copies_137 ?_
              refine lv_iconst (v := 1) hx hb dX8_copies_140 (by decide) ?_
              refine lv_isub hx hb dX8_copies_141 ?_
              refine lv_topi (fun x_76 ex_76 => ?_)
              obtain rfl : x_76 = 3 := ex_76.trans (by decide)
              refine lv_istore_n (lv' := [(2, .int 3), (1, .int 0), (0, .ref m0)]) hx hb dX8_copies_142 rfl hl (by decide) rfl (fun ls hl => ?_)
              refine lv_iload_n hx hb dX8_copies_143 rfl (lv_at hl 1 rfl) ?_
              refine lv_if_eq (tgt := 158) hx hb dX8_copies_144 (by decide) (fun c_144_76 => ?_) (fun c_144_76 => ?_)
              · have t_144_76 := c_144_76
                try simp only [kb_eq0, kb_ne0, lg_cmp_lt, lg_cmp_le, lg_cmp_gt, lg_cmp_ge, lg_cmp_eq] at t_144_76
                try simp only [Int32.lt_iff_toInt_lt, Int32.le_iff_toInt_le, ← Int32.toInt_inj, Int64.lt_iff_toInt_lt, Int64.le_iff_toInt_le, ← Int64.toInt_inj, Int32.toInt_toInt64, Int32.reduceToInt, Int64.reduceToInt] at t_144_76
                refine lv_aload_n hx hb dX8_copies_158 rfl (lv_at hl 2 rfl) ?_
                refine va_get (D := D) (ci := 8) (v := .ref mS) (C := RX8) (T := TX8) (N := 31) hx hb hts iX8_copies_X8 hown hK hP 0 rfl rfl 16 (by decide) (hts (.fieldLink RX8 20 "TapeCalculatorModel" "stands" "[I") (List.mem_of_getElem? (i := 5) rfl)) (fun _ h9 => h9) rfl dX8_copies_159 ?_
                refine lv_iload_n hx hb dX8_copies_162 rfl (lv_at hl 0 rfl) ?_
                refine va_iald hx hb hK hP 4 0 rfl rfl (vp_in_iff.mpr (by decide)) dX8_copies_163 ?_
                refine lv_topi (fun x_78 ex_78 => ?_)
                obtain rfl : s3 = x_78 := ex_78.symm
                refine lv_istore_n (lv' := [(3, .int s3), (2, .int 3), (1, .int 0), (0, .ref m0)]) hx hb dX8_copies_164 rfl hl (by decide) rfl (fun ls hl => ?_)
                have J230 : ∀ (vv : Int64) (st : Int32), jT_ st j3 → ∀ (H : Heap) (locs : List Loc), va_P D vwCl [(m0, .inr (8, [.ref mH, .int aM, .long aC, .int mM, .long mQ, .int oV, .int pL, .int lI, .int sW, .int dP, .int sT, .long aT, .int 4, .int iW, .ref mI, .ref mJ, .ref mS, .ref mD, .int iH, .int aE, .int mN, .long sZ, .ref mX, .int tS, .int tA, .int tW, .ref mA, .ref mB, .ref mW, .ref mL, .int lS])), (mH, .inl (cI, 512, .inl fH)), (mI, .inl (cL, 1200, .inr (.inl fI))), (mJ, .inl (cI, 4, .inl (k4i j0 j1 j2 j3))), (mS, .inl (cI, 4, .inl (k4i s0 s1 s2 st))), (mD, .inl (cL, 256, .inr (.inl fD)))] H → va_D A [(m0, .inr (8, [.ref mH, .int aM, .long aC, .int mM, .long mQ, .int oV, .int pL, .int lI, .int sW, .int dP, .int sT, .long aT, .int 4, .int iW, .ref mI, .ref mJ, .ref mS, .ref mD, .int iH, .int aE, .int mN, .long sZ, .ref mX, .int tS, .int tA, .int tW, .ref mA, .ref mB, .ref mW, .ref mL, .int lS])), (mH, .inl (cI, 512, .inl fH)), (mI, .inl (cL, 1200, .inr (.inl fI))), (mJ, .inl (cI, 4, .inl (k4i j0 j1 j2 j3))), (mS, .inl (cI, 4, .inl (k4i s0 s1 s2 st))), (mD, .inl (cL, 256, .inr (.inl fD)))] → va_S A s.heap H locs → ∀ ls : Array Slot, lv_has ls 6 [(4, .long vv), (3, .int s3), (2, .int 3), (1, .int 0), (0, .ref m0)] → W p l e ({ frames := 2, cells := 0, slots := 0, locals := 45 }) s m args below meth c H locs 0 0 (MQ below (kQ (S := (Int32 × Int32 × Int32 × Int32 × (Nat → Int32) × (Nat → Int64) × (Nat → Int64) × Int32 × Int32 × Int32 × Int32 × Int32 × Int32 × Int32 × Int32)) eI (fun r u => (0 ≤ r.toInt ∧ r.toInt ≤ 6) ∧ jP_ (u.1) ∧ jD_ (u.2.1) ∧ jC_ (u.2.2.1) ∧ jW_ (u.2.2.2.1) (u.2.2.1) ∧ jT_ (u.2.2.2.2.2.2.2.2.2.2.2.1) (u.2.2.2.2.2.2.2.1) ∧ jT_ (u.2.2.2.2.2.2.2.2.2.2.2.2.1) (u.2.2.2.2.2.2.2.2.1) ∧ jT_ (u.2.2.2.2.2.2.2.2.2.2.2.2.2.1) (u.2.2.2.2.2.2.2.2.2.1) ∧ jT_ (u.2.2.2.2.2.2.2.2.2.2.2.2.2.2) (u.2.2.2.2.2.2.2.2.2.2.1)) D (fun u => [(m0, .inr (8, [.ref mH, .int aM, .long aC, .int mM, .long mQ, .int oV, .int u.1, .int lI, .int sW, .int u.2.1, .int sT, .long aT, .int u.2.2.1, .int u.2.2.2.1, .ref mI, .ref mJ, .ref mS, .ref mD, .int iH, .int aE, .int mN, .long sZ, .ref mX, .int tS, .int tA, .int tW, .ref mA, .ref mB, .ref mW, .ref mL, .int lS])), (mH, .inl (cI, 512, .inl u.2.2.2.2.1)), (mI, .inl (cL, 1200, .inr (.inl u.2.2.2.2.2.2.1))), (mJ, .inl (cI, 4, .inl (k4i u.2.2.2.2.2.2.2.1 u.2.2.2.2.2.2.2.2.1 u.2.2.2.2.2.2.2.2.2.1 u.2.2.2.2.2.2.2.2.2.2.1))), (mS, .inl (cI, 4, .inl (k4i u.2.2.2.2.2.2.2.2.2.2.2.1 u.2.2.2.2.2.2.2.2.2.2.2.2.1 u.2.2.2.2.2.2.2.2.2.2.2.2.2.1 u.2.2.2.2.2.2.2.2.2.2.2.2.2.2))), (mD, .inl (cL, 256, .inr (.inl u.2.2.2.2.2.1)))]) A) args s 0 0 A) (F0 m 230 ls []) := by
                  intro vv st hst H locs hP hD hS ls hl
                  refine lv_lload hx hb dX8_copies_230 (lv_at hl 0 rfl) ?_
                  refine lv_lconst (v := 0) hx hb dX8_copies_232 (by decide) ?_
                  refine W.lcmp hx hb dX8_copies_233 ?_
                  refine lv_if_lt (tgt := 246) hx hb dX8_copies_234 (by decide) (fun c_234_78 => ?_) (fun c_234_78 => ?_)
                  · have t_234_78 := c_234_78
                    try simp only [kb_eq0, kb_ne0, lg_cmp_lt, lg_cmp_le, lg_cmp_gt, lg_cmp_ge, lg_cmp_eq] at t_234_78
                    try simp only [Int32.lt_iff_toInt_lt, Int32.le_iff_toInt_le, ← Int32.toInt_inj, Int64.lt_iff_toInt_lt, Int64.le_iff_toInt_le, ← Int64.toInt_inj, Int32.toInt_toInt64, Int32.reduceToInt, Int64.reduceToInt] at t_234_78
                    refine lv_aload_n hx hb dX8_copies_246 rfl (lv_at hl 4 rfl) ?_
                    refine lv_iconst (v := 0) hx hb dX8_copies_247 (by decide) ?_
                    refine va_put (D := D) (ci := 8) (v := .int 0) (ty := .int) (C := RX8) (T := TX8) (N := 31) hx hb hts iX8_copies_X8 tyX8 tyX8_ok nmX8 hown hK hP hD hS 0 rfl rfl 12 (by decide) (hts (.fieldLink RX8 43 "TapeCalculatorModel" "chosen" "I") (List.mem_of_getElem? (i := 1) rfl)) (fun _ h9 => h9) rfl (by decide +kernel) rfl rfl (Nat.le_of_ble_eq_true rfl) dX8_copies_248 (fun H locs hP hD hS => ?_)
                    have hP : va_P D vwCl [(m0, .inr (8, [.ref mH, .int aM, .long aC, .int mM, .long mQ, .int oV, .int pL, .int lI, .int sW, .int dP, .int sT, .long aT, .int 0, .int iW, .ref mI, .ref mJ, .ref mS, .ref mD, .int iH, .int aE, .int mN, .long sZ, .ref mX, .int tS, .int tA, .int tW, .ref mA, .ref mB, .ref mW, .ref mL, .int lS])), (mH, .inl (cI, 512, .inl fH)), (mI, .inl (cL, 1200, .inr (.inl fI))), (mJ, .inl (cI, 4, .inl (k4i j0 j1 j2 j3))), (mS, .inl (cI, 4, .inl (k4i s0 s1 s2 st))), (mD, .inl (cL, 256, .inr (.inl fD)))] H := hP
                    have hD : va_D A [(m0, .inr (8, [.ref mH, .int aM, .long aC, .int mM, .long mQ, .int oV, .int pL, .int lI, .int sW, .int dP, .int sT, .long aT, .int 0, .int iW, .ref mI, .ref mJ, .ref mS, .ref mD, .int iH, .int aE, .int mN, .long sZ, .ref mX, .int tS, .int tA, .int tW, .ref mA, .ref mB, .ref mW, .ref mL, .int lS])), (mH, .inl (cI, 512, .inl fH)), (mI, .inl (cL, 1200, .inr (.inl fI))), (mJ, .inl (cI, 4, .inl (k4i j0 j1 j2 j3))), (mS, .inl (cI, 4, .inl (k4i s0 s1 s2 st))), (mD, .inl (cL, 256, .inr (.inl fD)))] := hD
                    refine lv_aload_n hx hb dX8_copies_251 rfl (lv_at hl 4 rfl) ?_
                    refine lv_lload hx hb dX8_copies_252 (lv_at hl 0 rfl) ?_
                    refine lv_ldc2 (v := (-2)) hx hb hown (hts (.constantLong RX8 111 (-2)) (List.mem_of_getElem? (i := 9) rfl)) dX8_copies_254 ?_
                    refine W.lcmp hx hb dX8_copies_257 ?_
                    refine lv_if_ne (tgt := 265) hx hb dX8_copies_258 (by decide) (fun c_258_79 => ?_) (fun c_258_79 => ?_)
                    · have t_258_79 := c_258_79
                      try simp only [kb_eq0, kb_ne0, lg_cmp_lt, lg_cmp_le, lg_cmp_gt, lg_cmp_ge, lg_cmp_eq] at t_258_79
                      try simp only [Int32.lt_iff_toInt_lt, Int32.le_iff_toInt_le, ← Int32.toInt_inj, Int64.lt_iff_toInt_lt, Int64.le_iff_toInt_le, ← Int64.toInt_inj, Int32.toInt_toInt64, Int32.reduceToInt, Int64.reduceToInt] at t_258_79
                      refine lv_iconst (v := 1) hx hb dX8_copies_265 (by decide) ?_
                      refine kCallVd (wr := [(mH, .inl (cI, 512, .inl fH)), (mI, .inl (cL, 1200, .inr (.inl fI))), (mJ, .inl (cI, 4, .inl (k4i j0 j1 j2 j3))), (mS, .inl (cI, 4, .inl (k4i s0 s1 s2 st))), (mD, .inl (cL, 256, .inr (.inl fD)))]) (va_runV (As := [.int 1]) (rest := []) ⟨hx, hb, hml, hown, hts⟩ (q_go l D cI cL cB cZ cT _ m0 mH mI mJ mS mD mX mA mB mW mL aM aC mM mQ oV pL lI sW dP sT aT 0 iW iH aE mN sZ tS tA tW lS 1) (cwV 1 hts gX8_copies_X8_go rfl rfl rfl (by decide +kernel) ⟨Nat.le_of_ble_eq_true rfl, Nat.le_of_ble_eq_true rfl⟩) (kPreV hG hP hD [0] rfl (by decide) 0 8 rfl rfl rfl) rfl rfl hl.1 rfl (lv_room (Nat.le_of_ble_eq_true rfl)) dX8_copies_266 ⟨Nat.le_of_ble_eq_true rfl, Nat.le_of_ble_eq_true rfl⟩) hA hP hD hS [0] [1, 2, 3, 4, 5] rfl rfl (by decide) (by decide) (fun _ u_r_81 H locs wr_81 hP hD hS => ?_)
                      have hP : va_P D vwCl [(mH, .inl (cI, 512, .inl fH)), (mI, .inl (cL, 1200, .inr (.inl fI))), (mJ, .inl (cI, 4, .inl (k4i j0 j1 j2 j3))), (mS, .inl (cI, 4, .inl (k4i s0 s1 s2 st))), (mD, .inl (cL, 256, .inr (.inl fD))), (m0, .inr (8, [.ref mH, .int aM, .long aC, .int mM, .long mQ, .int oV, .int u_r_81, .int lI, .int sW, .int dP, .int sT, .long aT, .int 0, .int iW, .ref mI, .ref mJ, .ref mS, .ref mD, .int iH, .int aE, .int mN, .long sZ, .ref mX, .int tS, .int tA, .int tW, .ref mA, .ref mB, .ref mW, .ref mL, .int lS]))] H := hP
                      have hD : va_D A [(mH, .inl (cI, 512, .inl fH)), (mI, .inl (cL, 1200, .inr (.inl fI))), (mJ, .inl (cI, 4, .inl (k4i j0 j1 j2 j3))), (mS, .inl (cI, 4, .inl (k4i s0 s1 s2 st))), (mD, .inl (cL, 256, .inr (.inl fD))), (m0, .inr (8, [.ref mH, .int aM, .long aC, .int mM, .long mQ, .int oV, .int u_r_81, .int lI, .int sW, .int dP, .int sT, .long aT, .int 0, .int iW, .ref mI, .ref mJ, .ref mS, .ref mD, .int iH, .int aE, .int mN, .long sZ, .ref mX, .int tS, .int tA, .int tW, .ref mA, .ref mB, .ref mW, .ref mL, .int lS]))] := hD
                      try dsimp only at wr_81
                      try simp only [Int32.reduceToInt, Int64.reduceToInt] at wr_81
                      refine lv_iconst (v := 0) hx hb dX8_copies_269 (by decide) ?_
                      refine kIret (u := (u_r_81, dP, 0, iW, fH, fD, fI, j0, j1, j2, j3, s0, s1, s2, st)) hx hb hr rfl hlocks hS dX8_copies_270 ?_ (hP.sub [5, 0, 1, 2, 3, 4] rfl) (hD.sub [5, 0, 1, 2, 3, 4] (by decide) rfl)
                      try dsimp only
                      repeat' (with_reducible apply And.intro)
                      all_goals first | with_reducible assumption | ((try simp only [jT_, jP_, jD_, jC_, jB_, jW_, Int32.reduceToInt, Int64.reduceToInt, true_or, or_true, true_and, and_true]) <;> omega)
                    · have t_258_79 := c_258_79
                      try simp only [kb_eq0, kb_ne0, lg_cmp_lt, lg_cmp_le, lg_cmp_gt, lg_cmp_ge, lg_cmp_eq] at t_258_79
                      try simp only [Int32.lt_iff_toInt_lt, Int32.le_iff_toInt_le, ← Int32.toInt_inj, Int64.lt_iff_toInt_lt, Int64.le_iff_toInt_le, ← Int64.toInt_inj, Int32.toInt_toInt64, Int32.reduceToInt, Int64.reduceToInt] at t_258_79
                      refine lv_iconst (v := 2) hx hb dX8_copies_261 (by decide) ?_
                      refine lv_goto (tgt := 266) hx hb dX8_copies_262 (by decide) ?_
                      refine kCallVd (wr := [(mH, .inl (cI, 512, .inl fH)), (mI, .inl (cL, 1200, .inr (.inl fI))), (mJ, .inl (cI, 4, .inl (k4i j0 j1 j2 j3))), (mS, .inl (cI, 4, .inl (k4i s0 s1 s2 st))), (mD, .inl (cL, 256, .inr (.inl fD)))]) (va_runV (As := [.int 2]) (rest := []) ⟨hx, hb, hml, hown, hts⟩ (q_go l D cI cL cB cZ cT _ m0 mH mI mJ mS mD mX mA mB mW mL aM aC mM mQ oV pL lI sW dP sT aT 0 iW iH aE mN sZ tS tA tW lS 2) (cwV 1 hts gX8_copies_X8_go rfl rfl rfl (by decide +kernel) ⟨Nat.le_of_ble_eq_true rfl, Nat.le_of_ble_eq_true rfl⟩) (kPreV hG hP hD [0] rfl (by decide) 0 8 rfl rfl rfl) rfl rfl hl.1 rfl (lv_room (Nat.le_of_ble_eq_true rfl)) dX8_copies_266 ⟨Nat.le_of_ble_eq_true rfl, Nat.le_of_ble_eq_true rfl⟩) hA hP hD hS [0] [1, 2, 3, 4, 5] rfl rfl (by decide) (by decide) (fun _ u_r_82 H locs wr_82 hP hD hS => ?_)
                      have hP : va_P D vwCl [(mH, .inl (cI, 512, .inl fH)), (mI, .inl (cL, 1200, .inr (.inl fI))), (mJ, .inl (cI, 4, .inl (k4i j0 j1 j2 j3))), (mS, .inl (cI, 4, .inl (k4i s0 s1 s2 st))), (mD, .inl (cL, 256, .inr (.inl fD))), (m0, .inr (8, [.ref mH, .int aM, .long aC, .int mM, .long mQ, .int oV, .int u_r_82, .int lI, .int sW, .int dP, .int sT, .long aT, .int 0, .int iW, .ref mI, .ref mJ, .ref mS, .ref mD, .int iH, .int aE, .int mN, .long sZ, .ref mX, .int tS, .int tA, .int tW, .ref mA, .ref mB, .ref mW, .ref mL, .int lS]))] H := hP
                      have hD : va_D A [(mH, .inl (cI, 512, .inl fH)), (mI, .inl (cL, 1200, .inr (.inl fI))), (mJ, .inl (cI, 4, .inl (k4i j0 j1 j2 j3))), (mS, .inl (cI, 4, .inl (k4i s0 s1 s2 st))), (mD, .inl (cL, 256, .inr (.inl fD))), (m0, .inr (8, [.ref mH, .int aM, .long aC, .int mM, .long mQ, .int oV, .int u_r_82, .int lI, .int sW, .int dP, .int sT, .long aT, .int 0, .int iW, .ref mI, .ref mJ, .ref mS, .ref mD, .int iH, .int aE, .int mN, .long sZ, .ref mX, .int tS, .int tA, .int tW, .ref mA, .ref mB, .ref mW, .ref mL, .int lS]))] := hD
                      try dsimp only at wr_82
                      try simp only [Int32.reduceToInt, Int64.reduceToInt] at wr_82
                      refine lv_iconst (v := 0) hx hb dX8_copies_269 (by decide) ?_
                      refine kIret (u := (u_r_82, dP, 0, iW, fH, fD, fI, j0, j1, j2, j3, s0, s1, s2, st)) hx hb hr rfl hlocks hS dX8_copies_270 ?_ (hP.sub [5, 0, 1, 2, 3, 4] rfl) (hD.sub [5, 0, 1, 2, 3, 4] (by decide) rfl)
                      try dsimp only
                      repeat' (with_reducible apply And.intro)
                      all_goals first | with_reducible assumption | ((try simp only [jT_, jP_, jD_, jC_, jB_, jW_, Int32.reduceToInt, Int64.reduceToInt, true_or, or_true, true_and, and_true]) <;> omega)
                  · have t_234_78 := c_234_78
                    try simp only [kb_eq0, kb_ne0, lg_cmp_lt, lg_cmp_le, lg_cmp_gt, lg_cmp_ge, lg_cmp_eq] at t_234_78
                    try simp only [Int32.lt_iff_toInt_lt, Int32.le_iff_toInt_le, ← Int32.toInt_inj, Int64.lt_iff_toInt_lt, Int64.le_iff_toInt_le, ← Int64.toInt_inj, Int32.toInt_toInt64, Int32.reduceToInt, Int64.reduceToInt] at t_234_78
                    refine lv_aload_n hx hb dX8_copies_237 rfl (lv_at hl 4 rfl) ?_
                    refine lv_lload hx hb dX8_copies_238 (lv_at hl 0 rfl) ?_
                    refine kCallVd (wr := [(mI, .inl (cL, 1200, .inr (.inl fI))), (mJ, .inl (cI, 4, .inl (k4i j0 j1 j2 j3))), (mS, .inl (cI, 4, .inl (k4i s0 s1 s2 st))), (mD, .inl (cL, 256, .inr (.inl fD)))]) (va_runV (As := [.long vv]) (rest := []) ⟨hx, hb, hml, hown, hts⟩ (q_store l D cI cL cB cZ cT _ m0 mH mI mJ mS mD mX mA mB mW mL aM aC mM mQ oV pL lI sW dP sT aT 4 iW iH aE mN sZ tS tA tW lS fH vv (by omega)) (cwV 1 hts gX8_copies_X8_store rfl rfl rfl (by decide +kernel) ⟨Nat.le_of_ble_eq_true rfl, Nat.le_of_ble_eq_true rfl⟩) (kPreV hG hP hD [0, 1] rfl (by decide) 0 8 rfl rfl rfl) rfl rfl hl.1 rfl (lv_room (Nat.le_of_ble_eq_true rfl)) dX8_copies_240 ⟨Nat.le_of_ble_eq_true rfl, Nat.le_of_ble_eq_true rfl⟩) hA hP hD hS [0, 1] [2, 3, 4, 5] rfl rfl (by decide) (by decide) (fun _ u_r_83 H locs wr_83 hP hD hS => ?_)
                    have hP : va_P D vwCl [(mI, .inl (cL, 1200, .inr (.inl fI))), (mJ, .inl (cI, 4, .inl (k4i j0 j1 j2 j3))), (mS, .inl (cI, 4, .inl (k4i s0 s1 s2 st))), (mD, .inl (cL, 256, .inr (.inl fD))), (m0, .inr (8, [.ref mH, .int aM, .long aC, .int mM, .long mQ, .int oV, .int pL, .int lI, .int sW, .int dP, .int sT, .long aT, .int 4, .int iW, .ref mI, .ref mJ, .ref mS, .ref mD, .int iH, .int aE, .int mN, .long sZ, .ref mX, .int tS, .int tA, .int tW, .ref mA, .ref mB, .ref mW, .ref mL, .int lS])), (mH, .inl (cI, 512, .inl u_r_83))] H := hP
                    have hD : va_D A [(mI, .inl (cL, 1200, .inr (.inl fI))), (mJ, .inl (cI, 4, .inl (k4i j0 j1 j2 j3))), (mS, .inl (cI, 4, .inl (k4i s0 s1 s2 st))), (mD, .inl (cL, 256, .inr (.inl fD))), (m0, .inr (8, [.ref mH, .int aM, .long aC, .int mM, .long mQ, .int oV, .int pL, .int lI, .int sW, .int dP, .int sT, .long aT, .int 4, .int iW, .ref mI, .ref mJ, .ref mS, .ref mD, .int iH, .int aE, .int mN, .long sZ, .ref mX, .int tS, .int tA, .int tW, .ref mA, .ref mB, .ref mW, .ref mL, .int lS])), (mH, .inl (cI, 512, .inl u_r_83))] := hD
                    try dsimp only at wr_83
                    try simp only [Int32.reduceToInt, Int64.reduceToInt] at wr_83
                    refine lv_goto (tgt := 269) hx hb dX8_copies_243 (by decide) ?_
                    refine lv_iconst (v := 0) hx hb dX8_copies_269 (by decide) ?_
                    refine kIret (u := (pL, dP, 4, iW, u_r_83, fD, fI, j0, j1, j2, j3, s0, s1, s2, st)) hx hb hr rfl hlocks hS dX8_copies_270 ?_ (hP.sub [4, 5, 0, 1, 2, 3] rfl) (hD.sub [4, 5, 0, 1, 2, 3] (by decide) rfl)
                    try dsimp only
                    repeat' (with_reducible apply And.intro)
                    all_goals first | with_reducible assumption | ((try simp only [jT_, jP_, jD_, jC_, jB_, jW_, Int32.reduceToInt, Int64.reduceToInt, true_or, or_true, true_and, and_true]) <;> omega)
                refine lv_iload_n hx hb dX8_copies_165 rfl (lv_at hl 0 rfl) ?_
                refine lv_i2l hx hb dX8_copies_166 rfl ?_
                refine lv_lconst (v := 0) hx hb dX8_copies_167 (by decide) ?_
                refine lv_aload_n hx hb dX8_copies_168 rfl (lv_at hl 3 rfl) ?_
                refine va_get (D := D) (ci := 8) (v := .ref mJ) (C := RX8) (T := TX8) (N := 31) hx hb hts iX8_copies_X8 hown hK hP 0 rfl rfl 15 (by decide) (hts (.fieldLink RX8 17 "TapeCalculatorModel" "items" "[I") (List.mem_of_getElem? (i := 6) rfl)) (fun _ h9 => h9) rfl dX8_copies_169 ?_
                refine lv_iload_n hx hb dX8_copies_172 rfl (lv_at hl 1 rfl) ?_
                refine va_iald hx hb hK hP 3 0 rfl rfl (vp_in_iff.mpr (by decide)) dX8_copies_173 ?_
                refine lv_topi (fun x_84 ex_84 => ?_)
                obtain rfl : j3 = x_84 := ex_84.symm
                refine lv_iconst (v := 1) hx hb dX8_copies_174 (by decide) ?_
                refine lv_isub hx hb dX8_copies_175 ?_
                refine lv_i2l hx hb dX8_copies_176 rfl ?_
                refine kCallI (wr := [(m0, .inr (8, [.ref mH, .int aM, .long aC, .int mM, .long mQ, .int oV, .int pL, .int lI, .int sW, .int dP, .int sT, .long aT, .int 4, .int iW, .ref mI, .ref mJ, .ref mS, .ref mD, .int iH, .int aE, .int mN, .long sZ, .ref mX, .int tS, .int tA, .int tW, .ref mA, .ref mB, .ref mW, .ref mL, .int lS])), (mH, .inl (cI, 512, .inl fH)), (mI, .inl (cL, 1200, .inr (.inl fI))), (mJ, .inl (cI, 4, .inl (k4i j0 j1 j2 j3))), (mS, .inl (cI, 4, .inl (k4i s0 s1 s2 s3))), (mD, .inl (cL, 256, .inr (.inl fD)))]) (va_runS (As := [.long s3.toInt64, .long 0, .long (j3 - 1).toInt64]) (rest := []) ⟨hx, hb, hml, hown, hts⟩ (q_in l D cI cL cB cZ cT _ (s3.toInt64) 0 (j3 - 1).toInt64) (va_cwS 3 hts gX8_copies_X8_in rfl rfl rfl (by decide +kernel) ⟨Nat.le_of_ble_eq_true rfl, Nat.le_of_ble_eq_true rfl⟩) (kPreS hG hP hD [] rfl (by decide)) rfl rfl hl.1 rfl (lv_room (Nat.le_of_ble_eq_true rfl)) dX8_copies_177 ⟨Nat.le_of_ble_eq_true rfl, Nat.le_of_ble_eq_true rfl⟩) hA hP hD hS [] [0, 1, 2, 3, 4, 5] rfl rfl (by decide) (by decide) (fun r_85 u_r_85 H locs wr_85 hP hD hS => ?_)
                have hP : va_P D vwCl [(m0, .inr (8, [.ref mH, .int aM, .long aC, .int mM, .long mQ, .int oV, .int pL, .int lI, .int sW, .int dP, .int sT, .long aT, .int 4, .int iW, .ref mI, .ref mJ, .ref mS, .ref mD, .int iH, .int aE, .int mN, .long sZ, .ref mX, .int tS, .int tA, .int tW, .ref mA, .ref mB, .ref mW, .ref mL, .int lS])), (mH, .inl (cI, 512, .inl fH)), (mI, .inl (cL, 1200, .inr (.inl fI))), (mJ, .inl (cI, 4, .inl (k4i j0 j1 j2 j3))), (mS, .inl (cI, 4, .inl (k4i s0 s1 s2 s3))), (mD, .inl (cL, 256, .inr (.inl fD)))] H := hP
                have hD : va_D A [(m0, .inr (8, [.ref mH, .int aM, .long aC, .int mM, .long mQ, .int oV, .int pL, .int lI, .int sW, .int dP, .int sT, .long aT, .int 4, .int iW, .ref mI, .ref mJ, .ref mS, .ref mD, .int iH, .int aE, .int mN, .long sZ, .ref mX, .int tS, .int tA, .int tW, .ref mA, .ref mB, .ref mW, .ref mL, .int lS])), (mH, .inl (cI, 512, .inl fH)), (mI, .inl (cL, 1200, .inr (.inl fI))), (mJ, .inl (cI, 4, .inl (k4i j0 j1 j2 j3))), (mS, .inl (cI, 4, .inl (k4i s0 s1 s2 s3))), (mD, .inl (cL, 256, .inr (.inl fD)))] := hD
                try dsimp only at wr_85
                subst wr_85
                refine lv_if_eq (tgt := 198) hx hb dX8_copies_180 (by decide) (fun c_180_85 => ?_) (fun c_180_85 => ?_)
                · have t_180_85 := c_180_85
                  try simp only [kb_eq0, kb_ne0, lg_cmp_lt, lg_cmp_le, lg_cmp_gt, lg_cmp_ge, lg_cmp_eq] at t_180_85
                  try simp only [Int32.lt_iff_toInt_lt, Int32.le_iff_toInt_le, ← Int32.toInt_inj, Int64.lt_iff_toInt_lt, Int64.le_iff_toInt_le, ← Int64.toInt_inj, Int32.toInt_toInt64, Int32.reduceToInt, Int64.reduceToInt] at t_180_85
                  refine lv_ldc2 (v := (-9)) hx hb hown (hts (.constantLong RX8 107 (-9)) (List.mem_of_getElem? (i := 8) rfl)) dX8_copies_198 ?_
                  refine lv_lstore (lv' := [(4, .long (-9)), (3, .int s3), (2, .int 3), (1, .int 0), (0, .ref m0)]) hx hb dX8_copies_201 hl (by decide) rfl (fun ls hl => ?_)
                  refine lv_lload hx hb dX8_copies_203 (lv_at hl 0 rfl) ?_
                  refine lv_ldc2 (v := (-9)) hx hb hown (hts (.constantLong RX8 107 (-9)) (List.mem_of_getElem? (i := 8) rfl)) dX8_copies_205 ?_
                  refine W.lcmp hx hb dX8_copies_208 ?_
                  refine lv_topi (fun x_87 ex_87 => ?_)
                  obtain rfl : x_87 = 0 := ex_87.trans (by decide)
                  refine lv_if_eq (tgt := 230) hx hb dX8_copies_209 (by decide) (fun c_209_87 => ?_) (fun c_209_87 => ?_)
                  · have t_209_87 := c_209_87
                    try simp only [kb_eq0, kb_ne0, lg_cmp_lt, lg_cmp_le, lg_cmp_gt, lg_cmp_ge, lg_cmp_eq] at t_209_87
                    try simp only [Int32.lt_iff_toInt_lt, Int32.le_iff_toInt_le, ← Int32.toInt_inj, Int64.lt_iff_toInt_lt, Int64.le_iff_toInt_le, ← Int64.toInt_inj, Int32.toInt_toInt64, Int32.reduceToInt, Int64.reduceToInt] at t_209_87
                    exact J230 (-9) s3 (by first | with_reducible assumption | ((try simp only [jT_, jP_, jD_, jC_, jB_, jW_, Int32.reduceToInt, Int64.reduceToInt, true_or, or_true, true_and, and_true]) <;> omega)) _ _ (hP.sub [0, 1, 2, 3, 4, 5] rfl) (hD.sub [0, 1, 2, 3, 4, 5] (by decide) rfl) hS ls (lv_sub hl [0, 1, 2, 3, 4] rfl)
                  · exact absurd (by decide) c_209_87
                · have t_180_85 := c_180_85
                  try simp only [kb_eq0, kb_ne0, lg_cmp_lt, lg_cmp_le, lg_cmp_gt, lg_cmp_ge, lg_cmp_eq] at t_180_85
                  try simp only [Int32.lt_iff_toInt_lt, Int32.le_iff_toInt_le, ← Int32.toInt_inj, Int64.lt_iff_toInt_lt, Int64.le_iff_toInt_le, ← Int64.toInt_inj, Int32.toInt_toInt64, Int32.reduceToInt, Int64.reduceToInt] at t_180_85
                  refine lv_aload_n hx hb dX8_copies_183 rfl (lv_at hl 3 rfl) ?_
                  refine va_get (D := D) (ci := 8) (v := .ref mI) (C := RX8) (T := TX8) (N := 31) hx hb hts iX8_copies_X8 hown hK hP 0 rfl rfl 14 (by decide) (hts (.fieldLink RX8 13 "TapeCalculatorModel" "item" "[J") (List.mem_of_getElem? (i := 7) rfl)) (fun _ h9 => h9) rfl dX8_copies_184 ?_
                  refine lv_sipush (v := 300) hx hb dX8_copies_187 (by decide) ?_
                  refine lv_iload_n hx hb dX8_copies_190 rfl (lv_at hl 1 rfl) ?_
                  refine lv_imul hx hb dX8_copies_191 ?_
                  refine lv_topi (fun x_89 ex_89 => ?_)
                  obtain rfl : x_89 = 900 := ex_89.trans (by decide)
                  refine lv_iload_n hx hb dX8_copies_192 rfl (lv_at hl 0 rfl) ?_
                  refine lv_iadd hx hb dX8_copies_193 ?_
                  refine va_lald hx hb hK hP 2 1 rfl rfl (vp_in_iff.mpr (by have hx9 := k_addg (a := 900) (b := s3) (by decide) (by omega); simp only [Int32.reduceToInt] at hx9; omega)) dX8_copies_194 ?_
                  refine lv_goto (tgt := 201) hx hb dX8_copies_195 (by decide) ?_
                  refine lv_topl (fun x_90 ex_90 => ?_)
                  refine lv_lstore (lv' := [(4, .long x_90), (3, .int s3), (2, .int 3), (1, .int 0), (0, .ref m0)]) hx hb dX8_copies_201 hl (by decide) rfl (fun ls hl => ?_)
                  refine lv_lload hx hb dX8_copies_203 (lv_at hl 0 rfl) ?_
                  refine lv_ldc2 (v := (-9)) hx hb hown (hts (.constantLong RX8 107 (-9)) (List.mem_of_getElem? (i := 8) rfl)) dX8_copies_205 ?_
                  refine W.lcmp hx hb dX8_copies_208 ?_
                  refine lv_if_eq (tgt := 230) hx hb dX8_copies_209 (by decide) (fun c_209_90 => ?_) (fun c_209_90 => ?_)
                  · have t_209_90 := c_209_90
                    try simp only [kb_eq0, kb_ne0, lg_cmp_lt, lg_cmp_le, lg_cmp_gt, lg_cmp_ge, lg_cmp_eq] at t_209_90
                    try simp only [Int32.lt_iff_toInt_lt, Int32.le_iff_toInt_le, ← Int32.toInt_inj, Int64.lt_iff_toInt_lt, Int64.le_iff_toInt_le, ← Int64.toInt_inj, Int32.toInt_toInt64, Int32.reduceToInt, Int64.reduceToInt] at t_209_90
                    exact J230 x_90 s3 (by first | with_reducible assumption | ((try simp only [jT_, jP_, jD_, jC_, jB_, jW_, Int32.reduceToInt, Int64.reduceToInt, true_or, or_true, true_and, and_true]) <;> omega)) _ _ (hP.sub [0, 1, 2, 3, 4, 5] rfl) (hD.sub [0, 1, 2, 3, 4, 5] (by decide) rfl) hS ls (lv_sub hl [0, 1, 2, 3, 4] rfl)
                  · have t_209_90 := c_209_90
                    try simp only [kb_eq0, kb_ne0, lg_cmp_lt, lg_cmp_le, lg_cmp_gt, lg_cmp_ge, lg_cmp_eq] at t_209_90
                    try simp only [Int32.lt_iff_toInt_lt, Int32.le_iff_toInt_le, ← Int32.toInt_inj, Int64.lt_iff_toInt_lt, Int64.le_iff_toInt_le, ← Int64.toInt_inj, Int32.toInt_toInt64, Int32.reduceToInt, Int64.reduceToInt] at t_209_90
                    refine lv_aload_n hx hb dX8_copies_212 rfl (lv_at hl 4 rfl) ?_
                    refine va_get (D := D) (ci := 8) (v := .ref mS) (C := RX8) (T := TX8) (N := 31) hx hb hts iX8_copies_X8 hown hK hP 0 rfl rfl 16 (by decide) (hts (.fieldLink RX8 20 "TapeCalculatorModel" "stands" "[I") (List.mem_of_getElem? (i := 5) rfl)) (fun _ h9 => h9) rfl dX8_copies_213 ?_
                    refine lv_iload_n hx hb dX8_copies_216 rfl (lv_at hl 2 rfl) ?_
                    refine lv_dup2_11 hx hb dX8_copies_217 rfl rfl ?_
                    refine va_iald hx hb hK hP 4 0 rfl rfl (vp_in_iff.mpr (by decide)) dX8_copies_218 ?_
                    refine lv_topi (fun x_92 ex_92 => ?_)
                    obtain rfl : s3 = x_92 := ex_92.symm
                    refine lv_iload_n hx hb dX8_copies_219 rfl (lv_at hl 3 rfl) ?_
                    refine lv_if_eq (tgt := 227) hx hb dX8_copies_220 (by decide) (fun c_220_92 => ?_) (fun c_220_92 => ?_)
                    · have t_220_92 := c_220_92
                      try simp only [kb_eq0, kb_ne0, lg_cmp_lt, lg_cmp_le, lg_cmp_gt, lg_cmp_ge, lg_cmp_eq] at t_220_92
                      try simp only [Int32.lt_iff_toInt_lt, Int32.le_iff_toInt_le, ← Int32.toInt_inj, Int64.lt_iff_toInt_lt, Int64.le_iff_toInt_le, ← Int64.toInt_inj, Int32.toInt_toInt64, Int32.reduceToInt, Int64.reduceToInt] at t_220_92
                      refine lv_iconst (v := 1) hx hb dX8_copies_227 (by decide) ?_
                      refine lv_iadd hx hb dX8_copies_228 ?_
                      refine va_iast hx hb hK hP hD hS 4 0 rfl rfl (vp_in_iff.mpr (by decide)) dX8_copies_229 (fun H locs hP hD hS => ?_)
                      rw [k4i_3] at hP hD
                      have hP : va_P D vwCl [(m0, .inr (8, [.ref mH, .int aM, .long aC, .int mM, .long mQ, .int oV, .int pL, .int lI, .int sW, .int dP, .int sT, .long aT, .int 4, .int iW, .ref mI, .ref mJ, .ref mS, .ref mD, .int iH, .int aE, .int mN, .long sZ, .ref mX, .int tS, .int tA, .int tW, .ref mA, .ref mB, .ref mW, .ref mL, .int lS])), (mH, .inl (cI, 512, .inl fH)), (mI, .inl (cL, 1200, .inr (.inl fI))), (mJ, .inl (cI, 4, .inl (k4i j0 j1 j2 j3))), (mS, .inl (cI, 4, .inl (k4i s0 s1 s2 (s3 + 1)))), (mD, .inl (cL, 256, .inr (.inl fD)))] H := hP
                      have hD : va_D A [(m0, .inr (8, [.ref mH, .int aM, .long aC, .int mM, .long mQ, .int oV, .int pL, .int lI, .int sW, .int dP, .int sT, .long aT, .int 4, .int iW, .ref mI, .ref mJ, .ref mS, .ref mD, .int iH, .int aE, .int mN, .long sZ, .ref mX, .int tS, .int tA, .int tW, .ref mA, .ref mB, .ref mW, .ref mL, .int lS])), (mH, .inl (cI, 512, .inl fH)), (mI, .inl (cL, 1200, .inr (.inl fI))), (mJ, .inl (cI, 4, .inl (k4i j0 j1 j2 j3))), (mS, .inl (cI, 4, .inl (k4i s0 s1 s2 (s3 + 1)))), (mD, .inl (cL, 256, .inr (.inl fD)))] := hD
                      exact J230 x_90 (s3 + 1) (by first | with_reducible assumption | ((try simp only [jT_, jP_, jD_, jC_, jB_, jW_, Int32.reduceToInt, Int64.reduceToInt, true_or, or_true, true_and, and_true]) <;> omega)) _ _ (hP.sub [0, 1, 2, 3, 4, 5] rfl) (hD.sub [0, 1, 2, 3, 4, 5] (by decide) rfl) hS ls (lv_sub hl [0, 1, 2, 3, 4] rfl)
                    · exact absurd (by decide) c_220_92
              · exact absurd (by decide) c_144_76
            · exact absurd (by decide) c_124_74
          · exact absurd (by decide) c_114_73
        · exact absurd (by decide) c_79_72
      · exact absurd (by decide) c_16_71
    · exact absurd c_4_70 (by decide)
  · have hiw1 : iW.toInt = 0 := by simp only [jW_, Int32.reduceToInt] at hiw; omega
    have hu0 : 0 ≤ s0.toInt ∧ s0.toInt ≤ j0.toInt ∧ j0.toInt ≤ 300 := ht0
    have hs0 := k_sub (a := j0) (b := 1) (by omega) (by decide)
    simp only [Int32.reduceToInt] at hs0
    have hs1 := k_sub (a := s0) (b := 1) (by omega) (by decide)
    simp only [Int32.reduceToInt] at hs1
    have hs2 := k_addg (a := s0) (b := 1) (by omega) (by decide)
    have hs3 := k_addg (a := s0) (b := (-1)) (by omega) (by decide)
    simp only [Int32.reduceToInt, show (-1 : Int32).toInt = -1 from rfl] at hs2 hs3
    refine lv_aload_n hx hb dX8_copies_0 rfl (lv_at hl 0 rfl) ?_
    refine va_get (D := D) (ci := 8) (v := .int 5) (C := RX8) (T := TX8) (N := 31) hx hb hts iX8_copies_X8 hown hK hP 0 rfl rfl 12 (by decide) (hts (.fieldLink RX8 43 "TapeCalculatorModel" "chosen" "I") (List.mem_of_getElem? (i := 1) rfl)) (fun _ h9 => h9) rfl dX8_copies_1 ?_
    refine lv_if_ne (tgt := 10) hx hb dX8_copies_4 (by decide) (fun c_4_93 => ?_) (fun c_4_93 => ?_)
    · have t_4_93 := c_4_93
      try simp only [kb_eq0, kb_ne0, lg_cmp_lt, lg_cmp_le, lg_cmp_gt, lg_cmp_ge, lg_cmp_eq] at t_4_93
      try simp only [Int32.lt_iff_toInt_lt, Int32.le_iff_toInt_le, ← Int32.toInt_inj, Int64.lt_iff_toInt_lt, Int64.le_iff_toInt_le, ← Int64.toInt_inj, Int32.toInt_toInt64, Int32.reduceToInt, Int64.reduceToInt] at t_4_93
      refine lv_aload_n hx hb dX8_copies_10 rfl (lv_at hl 0 rfl) ?_
      refine va_get (D := D) (ci := 8) (v := .int 5) (C := RX8) (T := TX8) (N := 31) hx hb hts iX8_copies_X8 hown hK hP 0 rfl rfl 12 (by decide) (hts (.fieldLink RX8 43 "TapeCalculatorModel" "chosen" "I") (List.mem_of_getElem? (i := 1) rfl)) (fun _ h9 => h9) rfl dX8_copies_11 ?_
      refine lv_bipush (v := 12) hx hb dX8_copies_14 (by decide) ?_
      refine lv_icmp_le (tgt := 73) hx hb dX8_copies_16 (by decide) (fun c_16_94 => ?_) (fun c_16_94 => ?_)
      · have t_16_94 := c_16_94
        try simp only [kb_eq0, kb_ne0, lg_cmp_lt, lg_cmp_le, lg_cmp_gt, lg_cmp_ge, lg_cmp_eq] at t_16_94
        try simp only [Int32.lt_iff_toInt_lt, Int32.le_iff_toInt_le, ← Int32.toInt_inj, Int64.lt_iff_toInt_lt, Int64.le_iff_toInt_le, ← Int64.toInt_inj, Int32.toInt_toInt64, Int32.reduceToInt, Int64.reduceToInt] at t_16_94
        refine lv_aload_n hx hb dX8_copies_73 rfl (lv_at hl 0 rfl) ?_
        refine va_get (D := D) (ci := 8) (v := .int 5) (C := RX8) (T := TX8) (N := 31) hx hb hts iX8_copies_X8 hown hK hP 0 rfl rfl 12 (by decide) (hts (.fieldLink RX8 43 "TapeCalculatorModel" "chosen" "I") (List.mem_of_getElem? (i := 1) rfl)) (fun _ h9 => h9) rfl dX8_copies_74 ?_
        refine lv_bipush (v := 8) hx hb dX8_copies_77 (by decide) ?_
        refine lv_icmp_le (tgt := 109) hx hb dX8_copies_79 (by decide) (fun c_79_95 => ?_) (fun c_79_95 => ?_)
        · have t_79_95 := c_79_95
          try simp only [kb_eq0, kb_ne0, lg_cmp_lt, lg_cmp_le, lg_cmp_gt, lg_cmp_ge, lg_cmp_eq] at t_79_95
          try simp only [Int32.lt_iff_toInt_lt, Int32.le_iff_toInt_le, ← Int32.toInt_inj, Int64.lt_iff_toInt_lt, Int64.le_iff_toInt_le, ← Int64.toInt_inj, Int32.toInt_toInt64, Int32.reduceToInt, Int64.reduceToInt] at t_79_95
          refine lv_aload_n hx hb dX8_copies_109 rfl (lv_at hl 0 rfl) ?_
          refine va_get (D := D) (ci := 8) (v := .int 5) (C := RX8) (T := TX8) (N := 31) hx hb hts iX8_copies_X8 hown hK hP 0 rfl rfl 12 (by decide) (hts (.fieldLink RX8 43 "TapeCalculatorModel" "chosen" "I") (List.mem_of_getElem? (i := 1) rfl)) (fun _ h9 => h9) rfl dX8_copies_110 ?_
          refine lv_iconst (v := 4) hx hb dX8_copies_113 (by decide) ?_
          refine lv_icmp_le (tgt := 121) hx hb dX8_copies_114 (by decide) (fun c_114_96 => ?_) (fun c_114_96 => ?_)
          · exact absurd c_114_96 (by decide)
          · have t_114_96 := c_114_96
            try simp only [kb_eq0, kb_ne0, lg_cmp_lt, lg_cmp_le, lg_cmp_gt, lg_cmp_ge, lg_cmp_eq] at t_114_96
            try simp only [Int32.lt_iff_toInt_lt, Int32.le_iff_toInt_le, ← Int32.toInt_inj, Int64.lt_iff_toInt_lt, Int64.le_iff_toInt_le, ← Int64.toInt_inj, Int32.toInt_toInt64, Int32.reduceToInt, Int64.reduceToInt] at t_114_96
            refine lv_iconst (v := 1) hx hb dX8_copies_117 (by decide) ?_
            refine lv_goto (tgt := 122) hx hb dX8_copies_118 (by decide) ?_
            refine lv_istore_n (lv' := [(1, .int 1), (0, .ref m0)]) hx hb dX8_copies_122 rfl hl (by decide) rfl (fun ls hl => ?_)
            refine lv_iload_n hx hb dX8_copies_123 rfl (lv_at hl 0 rfl) ?_
            refine lv_if_eq (tgt := 136) hx hb dX8_copies_124 (by decide) (fun c_124_97 => ?_) (fun c_124_97 => ?_)
            · exact absurd c_124_97 (by decide)
            · have t_124_97 := c_124_97
              try simp only [kb_eq0, kb_ne0, lg_cmp_lt, lg_cmp_le, lg_cmp_gt, lg_cmp_ge, lg_cmp_eq] at t_124_97
              try simp only [Int32.lt_iff_toInt_lt, Int32.le_iff_toInt_le, ← Int32.toInt_inj, Int64.lt_iff_toInt_lt, Int64.le_iff_toInt_le, ← Int64.toInt_inj, Int32.toInt_toInt64, Int32.reduceToInt, Int64.reduceToInt] at t_124_97
              refine lv_aload_n hx hb dX8_copies_127 rfl (lv_at hl 1 rfl) ?_
              refine va_get (D := D) (ci := 8) (v := .int 5) (C := RX8) (T := TX8) (N := 31) hx hb hts iX8_copies_X8 hown hK hP 0 rfl rfl 12 (by decide) (hts (.fieldLink RX8 43 "TapeCalculatorModel" "chosen" "I") (List.mem_of_getElem? (i := 1) rfl)) (fun _ h9 => h9) rfl dX8_copies_128 ?_
              refine lv_iconst (v := 5) hx hb dX8_copies_131 (by decide) ?_
              refine lv_isub hx hb dX8_copies_132 ?_
              refine lv_topi (fun x_99 ex_99 => ?_)
              obtain rfl : x_99 = 0 := ex_99.trans (by decide)
              refine lv_goto (tgt := 142) hx hb dX8_copies_133 (by decide) ?_
              refine lv_istore_n (lv' := [(2, .int 0), (1, .int 1), (0, .ref m0)]) hx hb dX8_copies_142 rfl hl (by decide) rfl (fun ls hl => ?_)
              refine lv_iload_n hx hb dX8_copies_143 rfl (lv_at hl 1 rfl) ?_
              refine lv_if_eq (tgt := 158) hx hb dX8_copies_144 (by decide) (fun c_144_99 => ?_) (fun c_144_99 => ?_)
              · exact absurd c_144_99 (by decide)
              · have t_144_99 := c_144_99
                try simp only [kb_eq0, kb_ne0, lg_cmp_lt, lg_cmp_le, lg_cmp_gt, lg_cmp_ge, lg_cmp_eq] at t_144_99
                try simp only [Int32.lt_iff_toInt_lt, Int32.le_iff_toInt_le, ← Int32.toInt_inj, Int64.lt_iff_toInt_lt, Int64.le_iff_toInt_le, ← Int64.toInt_inj, Int32.toInt_toInt64, Int32.reduceToInt, Int64.reduceToInt] at t_144_99
                refine lv_aload_n hx hb dX8_copies_147 rfl (lv_at hl 2 rfl) ?_
                refine va_get (D := D) (ci := 8) (v := .ref mS) (C := RX8) (T := TX8) (N := 31) hx hb hts iX8_copies_X8 hown hK hP 0 rfl rfl 16 (by decide) (hts (.fieldLink RX8 20 "TapeCalculatorModel" "stands" "[I") (List.mem_of_getElem? (i := 5) rfl)) (fun _ h9 => h9) rfl dX8_copies_148 ?_
                refine lv_iload_n hx hb dX8_copies_151 rfl (lv_at hl 0 rfl) ?_
                refine va_iald hx hb hK hP 4 0 rfl rfl (vp_in_iff.mpr (by decide)) dX8_copies_152 ?_
                refine lv_topi (fun x_101 ex_101 => ?_)
                obtain rfl : s0 = x_101 := ex_101.symm
                refine lv_iconst (v := 1) hx hb dX8_copies_153 (by decide) ?_
                refine lv_isub hx hb dX8_copies_154 ?_
                refine lv_goto (tgt := 164) hx hb dX8_copies_155 (by decide) ?_
                refine lv_topi (fun x_102 ex_102 => ?_)
                refine lv_istore_n (lv' := [(3, .int x_102), (2, .int 0), (1, .int 1), (0, .ref m0)]) hx hb dX8_copies_164 rfl hl (by decide) rfl (fun ls hl => ?_)
                rw [← ex_102] at hs1
                have J230 : ∀ (vv : Int64) (st : Int32), jT_ st j0 → ∀ (H : Heap) (locs : List Loc), va_P D vwCl [(m0, .inr (8, [.ref mH, .int aM, .long aC, .int mM, .long mQ, .int oV, .int pL, .int lI, .int sW, .int dP, .int sT, .long aT, .int 5, .int iW, .ref mI, .ref mJ, .ref mS, .ref mD, .int iH, .int aE, .int mN, .long sZ, .ref mX, .int tS, .int tA, .int tW, .ref mA, .ref mB, .ref mW, .ref mL, .int lS])), (mH, .inl (cI, 512, .inl fH)), (mI, .inl (cL, 1200, .inr (.inl fI))), (mJ, .inl (cI, 4, .inl (k4i j0 j1 j2 j3))), (mS, .inl (cI, 4, .inl (k4i st s1 s2 s3))), (mD, .inl (cL, 256, .inr (.inl fD)))] H → va_D A [(m0, .inr (8, [.ref mH, .int aM, .long aC, .int mM, .long mQ, .int oV, .int pL, .int lI, .int sW, .int dP, .int sT, .long aT, .int 5, .int iW, .ref mI, .ref mJ, .ref mS, .ref mD, .int iH, .int aE, .int mN, .long sZ, .ref mX, .int tS, .int tA, .int tW, .ref mA, .ref mB, .ref mW, .ref mL, .int lS])), (mH, .inl (cI, 512, .inl fH)), (mI, .inl (cL, 1200, .inr (.inl fI))), (mJ, .inl (cI, 4, .inl (k4i j0 j1 j2 j3))), (mS, .inl (cI, 4, .inl (k4i st s1 s2 s3))), (mD, .inl (cL, 256, .inr (.inl fD)))] → va_S A s.heap H locs → ∀ ls : Array Slot, lv_has ls 6 [(4, .long vv), (3, .int x_102), (2, .int 0), (1, .int 1), (0, .ref m0)] → W p l e ({ frames := 2, cells := 0, slots := 0, locals := 45 }) s m args below meth c H locs 0 0 (MQ below (kQ (S := (Int32 × Int32 × Int32 × Int32 × (Nat → Int32) × (Nat → Int64) × (Nat → Int64) × Int32 × Int32 × Int32 × Int32 × Int32 × Int32 × Int32 × Int32)) eI (fun r u => (0 ≤ r.toInt ∧ r.toInt ≤ 6) ∧ jP_ (u.1) ∧ jD_ (u.2.1) ∧ jC_ (u.2.2.1) ∧ jW_ (u.2.2.2.1) (u.2.2.1) ∧ jT_ (u.2.2.2.2.2.2.2.2.2.2.2.1) (u.2.2.2.2.2.2.2.1) ∧ jT_ (u.2.2.2.2.2.2.2.2.2.2.2.2.1) (u.2.2.2.2.2.2.2.2.1) ∧ jT_ (u.2.2.2.2.2.2.2.2.2.2.2.2.2.1) (u.2.2.2.2.2.2.2.2.2.1) ∧ jT_ (u.2.2.2.2.2.2.2.2.2.2.2.2.2.2) (u.2.2.2.2.2.2.2.2.2.2.1)) D (fun u => [(m0, .inr (8, [.ref mH, .int aM, .long aC, .int mM, .long mQ, .int oV, .int u.1, .int lI, .int sW, .int u.2.1, .int sT, .long aT, .int u.2.2.1, .int u.2.2.2.1, .ref mI, .ref mJ, .ref mS, .ref mD, .int iH, .int aE, .int mN, .long sZ, .ref mX, .int tS, .int tA, .int tW, .ref mA, .ref mB, .ref mW, .ref mL, .int lS])), (mH, .inl (cI, 512, .inl u.2.2.2.2.1)), (mI, .inl (cL, 1200, .inr (.inl u.2.2.2.2.2.2.1))), (mJ, .inl (cI, 4, .inl (k4i u.2.2.2.2.2.2.2.1 u.2.2.2.2.2.2.2.2.1 u.2.2.2.2.2.2.2.2.2.1 u.2.2.2.2.2.2.2.2.2.2.1))), (mS, .inl (cI, 4, .inl (k4i u.2.2.2.2.2.2.2.2.2.2.2.1 u.2.2.2.2.2.2.2.2.2.2.2.2.1 u.2.2.2.2.2.2.2.2.2.2.2.2.2.1 u.2.2.2.2.2.2.2.2.2.2.2.2.2.2))), (mD, .inl (cL, 256, .inr (.inl u.2.2.2.2.2.1)))]) A) args s 0 0 A) (F0 m 230 ls []) := by
                  intro vv st hst H locs hP hD hS ls hl
                  refine lv_lload hx hb dX8_copies_230 (lv_at hl 0 rfl) ?_
                  refine lv_lconst (v := 0) hx hb dX8_copies_232 (by decide) ?_
                  refine W.lcmp hx hb dX8_copies_233 ?_
                  refine lv_if_lt (tgt := 246) hx hb dX8_copies_234 (by decide) (fun c_234_102 => ?_) (fun c_234_102 => ?_)
                  · have t_234_102 := c_234_102
                    try simp only [kb_eq0, kb_ne0, lg_cmp_lt, lg_cmp_le, lg_cmp_gt, lg_cmp_ge, lg_cmp_eq] at t_234_102
                    try simp only [Int32.lt_iff_toInt_lt, Int32.le_iff_toInt_le, ← Int32.toInt_inj, Int64.lt_iff_toInt_lt, Int64.le_iff_toInt_le, ← Int64.toInt_inj, Int32.toInt_toInt64, Int32.reduceToInt, Int64.reduceToInt] at t_234_102
                    refine lv_aload_n hx hb dX8_copies_246 rfl (lv_at hl 4 rfl) ?_
                    refine lv_iconst (v := 0) hx hb dX8_copies_247 (by decide) ?_
                    refine va_put (D := D) (ci := 8) (v := .int 0) (ty := .int) (C := RX8) (T := TX8) (N := 31) hx hb hts iX8_copies_X8 tyX8 tyX8_ok nmX8 hown hK hP hD hS 0 rfl rfl 12 (by decide) (hts (.fieldLink RX8 43 "TapeCalculatorModel" "chosen" "I") (List.mem_of_getElem? (i := 1) rfl)) (fun _ h9 => h9) rfl (by decide +kernel) rfl rfl (Nat.le_of_ble_eq_true rfl) dX8_copies_248 (fun H locs hP hD hS => ?_)
                    have hP : va_P D vwCl [(m0, .inr (8, [.ref mH, .int aM, .long aC, .int mM, .long mQ, .int oV, .int pL, .int lI, .int sW, .int dP, .int sT, .long aT, .int 0, .int iW, .ref mI, .ref mJ, .ref mS, .ref mD, .int iH, .int aE, .int mN, .long sZ, .ref mX, .int tS, .int tA, .int tW, .ref mA, .ref mB, .ref mW, .ref mL, .int lS])), (mH, .inl (cI, 512, .inl fH)), (mI, .inl (cL, 1200, .inr (.inl fI))), (mJ, .inl (cI, 4, .inl (k4i j0 j1 j2 j3))), (mS, .inl (cI, 4, .inl (k4i st s1 s2 s3))), (mD, .inl (cL, 256, .inr (.inl fD)))] H := hP
                    have hD : va_D A [(m0, .inr (8, [.ref mH, .int aM, .long aC, .int mM, .long mQ, .int oV, .int pL, .int lI, .int sW, .int dP, .int sT, .long aT, .int 0, .int iW, .ref mI, .ref mJ, .ref mS, .ref mD, .int iH, .int aE, .int mN, .long sZ, .ref mX, .int tS, .int tA, .int tW, .ref mA, .ref mB, .ref mW, .ref mL, .int lS])), (mH, .inl (cI, 512, .inl fH)), (mI, .inl (cL, 1200, .inr (.inl fI))), (mJ, .inl (cI, 4, .inl (k4i j0 j1 j2 j3))), (mS, .inl (cI, 4, .inl (k4i st s1 s2 s3))), (mD, .inl (cL, 256, .inr (.inl fD)))] := hD
                    refine lv_aload_n hx hb dX8_copies_251 rfl (lv_at hl 4 rfl) ?_
                    refine lv_lload hx hb dX8_copies_252 (lv_at hl 0 rfl) ?_
                    refine lv_ldc2 (v := (-2)) hx hb hown (hts (.constantLong RX8 111 (-2)) (List.mem_of_getElem? (i := 9) rfl)) dX8_copies_254 ?_
                    refine W.lcmp hx hb dX8_copies_257 ?_
                    refine lv_if_ne (tgt := 265) hx hb dX8_copies_258 (by decide) (fun c_258_103 => ?_) (fun c_258_103 => ?_)
                    · have t_258_103 := c_258_103
                      try simp only [kb_eq0, kb_ne0, lg_cmp_lt, lg_cmp_le, lg_cmp_gt, lg_cmp_ge, lg_cmp_eq] at t_258_103
                      try simp only [Int32.lt_iff_toInt_lt, Int32.le_iff_toInt_le, ← Int32.toInt_inj, Int64.lt_iff_toInt_lt, Int64.le_iff_toInt_le, ← Int64.toInt_inj, Int32.toInt_toInt64, Int32.reduceToInt, Int64.reduceToInt] at t_258_103
                      refine lv_iconst (v := 1) hx hb dX8_copies_265 (by decide) ?_
                      refine kCallVd (wr := [(mH, .inl (cI, 512, .inl fH)), (mI, .inl (cL, 1200, .inr (.inl fI))), (mJ, .inl (cI, 4, .inl (k4i j0 j1 j2 j3))), (mS, .inl (cI, 4, .inl (k4i st s1 s2 s3))), (mD, .inl (cL, 256, .inr (.inl fD)))]) (va_runV (As := [.int 1]) (rest := []) ⟨hx, hb, hml, hown, hts⟩ (q_go l D cI cL cB cZ cT _ m0 mH mI mJ mS mD mX mA mB mW mL aM aC mM mQ oV pL lI sW dP sT aT 0 iW iH aE mN sZ tS tA tW lS 1) (cwV 1 hts gX8_copies_X8_go rfl rfl rfl (by decide +kernel) ⟨Nat.le_of_ble_eq_true rfl, Nat.le_of_ble_eq_true rfl⟩) (kPreV hG hP hD [0] rfl (by decide) 0 8 rfl rfl rfl) rfl rfl hl.1 rfl (lv_room (Nat.le_of_ble_eq_true rfl)) dX8_copies_266 ⟨Nat.le_of_ble_eq_true rfl, Nat.le_of_ble_eq_true rfl⟩) hA hP hD hS [0] [1, 2, 3, 4, 5] rfl rfl (by decide) (by decide) (fun _ u_r_105 H locs wr_105 hP hD hS => ?_)
                      have hP : va_P D vwCl [(mH, .inl (cI, 512, .inl fH)), (mI, .inl (cL, 1200, .inr (.inl fI))), (mJ, .inl (cI, 4, .inl (k4i j0 j1 j2 j3))), (mS, .inl (cI, 4, .inl (k4i st s1 s2 s3))), (mD, .inl (cL, 256, .inr (.inl fD))), (m0, .inr (8, [.ref mH, .int aM, .long aC, .int mM, .long mQ, .int oV, .int u_r_105, .int lI, .int sW, .int dP, .int sT, .long aT, .int 0, .int iW, .ref mI, .ref mJ, .ref mS, .ref mD, .int iH, .int aE, .int mN, .long sZ, .ref mX, .int tS, .int tA, .int tW, .ref mA, .ref mB, .ref mW, .ref mL, .int lS]))] H := hP
                      have hD : va_D A [(mH, .inl (cI, 512, .inl fH)), (mI, .inl (cL, 1200, .inr (.inl fI))), (mJ, .inl (cI, 4, .inl (k4i j0 j1 j2 j3))), (mS, .inl (cI, 4, .inl (k4i st s1 s2 s3))), (mD, .inl (cL, 256, .inr (.inl fD))), (m0, .inr (8, [.ref mH, .int aM, .long aC, .int mM, .long mQ, .int oV, .int u_r_105, .int lI, .int sW, .int dP, .int sT, .long aT, .int 0, .int iW, .ref mI, .ref mJ, .ref mS, .ref mD, .int iH, .int aE, .int mN, .long sZ, .ref mX, .int tS, .int tA, .int tW, .ref mA, .ref mB, .ref mW, .ref mL, .int lS]))] := hD
                      try dsimp only at wr_105
                      try simp only [Int32.reduceToInt, Int64.reduceToInt] at wr_105
                      refine lv_iconst (v := 0) hx hb dX8_copies_269 (by decide) ?_
                      refine kIret (u := (u_r_105, dP, 0, iW, fH, fD, fI, j0, j1, j2, j3, st, s1, s2, s3)) hx hb hr rfl hlocks hS dX8_copies_270 ?_ (hP.sub [5, 0, 1, 2, 3, 4] rfl) (hD.sub [5, 0, 1, 2, 3, 4] (by decide) rfl)
                      try dsimp only
                      repeat' (with_reducible apply And.intro)
                      all_goals first | with_reducible assumption | ((try simp only [jT_, jP_, jD_, jC_, jB_, jW_, Int32.reduceToInt, Int64.reduceToInt, true_or, or_true, true_and, and_true]) <;> omega)
                    · have t_258_103 := c_258_103
                      try simp only [kb_eq0, kb_ne0, lg_cmp_lt, lg_cmp_le, lg_cmp_gt, lg_cmp_ge, lg_cmp_eq] at t_258_103
                      try simp only [Int32.lt_iff_toInt_lt, Int32.le_iff_toInt_le, ← Int32.toInt_inj, Int64.lt_iff_toInt_lt, Int64.le_iff_toInt_le, ← Int64.toInt_inj, Int32.toInt_toInt64, Int32.reduceToInt, Int64.reduceToInt] at t_258_103
                      refine lv_iconst (v := 2) hx hb dX8_copies_261 (by decide) ?_
                      refine lv_goto (tgt := 266) hx hb dX8_copies_262 (by decide) ?_
                      refine kCallVd (wr := [(mH, .inl (cI, 512, .inl fH)), (mI, .inl (cL, 1200, .inr (.inl fI))), (mJ, .inl (cI, 4, .inl (k4i j0 j1 j2 j3))), (mS, .inl (cI, 4, .inl (k4i st s1 s2 s3))), (mD, .inl (cL, 256, .inr (.inl fD)))]) (va_runV (As := [.int 2]) (rest := []) ⟨hx, hb, hml, hown, hts⟩ (q_go l D cI cL cB cZ cT _ m0 mH mI mJ mS mD mX mA mB mW mL aM aC mM mQ oV pL lI sW dP sT aT 0 iW iH aE mN sZ tS tA tW lS 2) (cwV 1 hts gX8_copies_X8_go rfl rfl rfl (by decide +kernel) ⟨Nat.le_of_ble_eq_true rfl, Nat.le_of_ble_eq_true rfl⟩) (kPreV hG hP hD [0] rfl (by decide) 0 8 rfl rfl rfl) rfl rfl hl.1 rfl (lv_room (Nat.le_of_ble_eq_true rfl)) dX8_copies_266 ⟨Nat.le_of_ble_eq_true rfl, Nat.le_of_ble_eq_true rfl⟩) hA hP hD hS [0] [1, 2, 3, 4, 5] rfl rfl (by decide) (by decide) (fun _ u_r_106 H locs wr_106 hP hD hS => ?_)
                      have hP : va_P D vwCl [(mH, .inl (cI, 512, .inl fH)), (mI, .inl (cL, 1200, .inr (.inl fI))), (mJ, .inl (cI, 4, .inl (k4i j0 j1 j2 j3))), (mS, .inl (cI, 4, .inl (k4i st s1 s2 s3))), (mD, .inl (cL, 256, .inr (.inl fD))), (m0, .inr (8, [.ref mH, .int aM, .long aC, .int mM, .long mQ, .int oV, .int u_r_106, .int lI, .int sW, .int dP, .int sT, .long aT, .int 0, .int iW, .ref mI, .ref mJ, .ref mS, .ref mD, .int iH, .int aE, .int mN, .long sZ, .ref mX, .int tS, .int tA, .int tW, .ref mA, .ref mB, .ref mW, .ref mL, .int lS]))] H := hP
                      have hD : va_D A [(mH, .inl (cI, 512, .inl fH)), (mI, .inl (cL, 1200, .inr (.inl fI))), (mJ, .inl (cI, 4, .inl (k4i j0 j1 j2 j3))), (mS, .inl (cI, 4, .inl (k4i st s1 s2 s3))), (mD, .inl (cL, 256, .inr (.inl fD))), (m0, .inr (8, [.ref mH, .int aM, .long aC, .int mM, .long mQ, .int oV, .int u_r_106, .int lI, .int sW, .int dP, .int sT, .long aT, .int 0, .int iW, .ref mI, .ref mJ, .ref mS, .ref mD, .int iH, .int aE, .int mN, .long sZ, .ref mX, .int tS, .int tA, .int tW, .ref mA, .ref mB, .ref mW, .ref mL, .int lS]))] := hD
                      try dsimp only at wr_106
                      try simp only [Int32.reduceToInt, Int64.reduceToInt] at wr_106
                      refine lv_iconst (v := 0) hx hb dX8_copies_269 (by decide) ?_
                      refine kIret (u := (u_r_106, dP, 0, iW, fH, fD, fI, j0, j1, j2, j3, st, s1, s2, s3)) hx hb hr rfl hlocks hS dX8_copies_270 ?_ (hP.sub [5, 0, 1, 2, 3, 4] rfl) (hD.sub [5, 0, 1, 2, 3, 4] (by decide) rfl)
                      try dsimp only
                      repeat' (with_reducible apply And.intro)
                      all_goals first | with_reducible assumption | ((try simp only [jT_, jP_, jD_, jC_, jB_, jW_, Int32.reduceToInt, Int64.reduceToInt, true_or, or_true, true_and, and_true]) <;> omega)
                  · have t_234_102 := c_234_102
                    try simp only [kb_eq0, kb_ne0, lg_cmp_lt, lg_cmp_le, lg_cmp_gt, lg_cmp_ge, lg_cmp_eq] at t_234_102
                    try simp only [Int32.lt_iff_toInt_lt, Int32.le_iff_toInt_le, ← Int32.toInt_inj, Int64.lt_iff_toInt_lt, Int64.le_iff_toInt_le, ← Int64.toInt_inj, Int32.toInt_toInt64, Int32.reduceToInt, Int64.reduceToInt] at t_234_102
                    refine lv_aload_n hx hb dX8_copies_237 rfl (lv_at hl 4 rfl) ?_
                    refine lv_lload hx hb dX8_copies_238 (lv_at hl 0 rfl) ?_
                    refine kCallVd (wr := [(mI, .inl (cL, 1200, .inr (.inl fI))), (mJ, .inl (cI, 4, .inl (k4i j0 j1 j2 j3))), (mS, .inl (cI, 4, .inl (k4i st s1 s2 s3))), (mD, .inl (cL, 256, .inr (.inl fD)))]) (va_runV (As := [.long vv]) (rest := []) ⟨hx, hb, hml, hown, hts⟩ (q_store l D cI cL cB cZ cT _ m0 mH mI mJ mS mD mX mA mB mW mL aM aC mM mQ oV pL lI sW dP sT aT 5 iW iH aE mN sZ tS tA tW lS fH vv (by omega)) (cwV 1 hts gX8_copies_X8_store rfl rfl rfl (by decide +kernel) ⟨Nat.le_of_ble_eq_true rfl, Nat.le_of_ble_eq_true rfl⟩) (kPreV hG hP hD [0, 1] rfl (by decide) 0 8 rfl rfl rfl) rfl rfl hl.1 rfl (lv_room (Nat.le_of_ble_eq_true rfl)) dX8_copies_240 ⟨Nat.le_of_ble_eq_true rfl, Nat.le_of_ble_eq_true rfl⟩) hA hP hD hS [0, 1] [2, 3, 4, 5] rfl rfl (by decide) (by decide) (fun _ u_r_107 H locs wr_107 hP hD hS => ?_)
                    have hP : va_P D vwCl [(mI, .inl (cL, 1200, .inr (.inl fI))), (mJ, .inl (cI, 4, .inl (k4i j0 j1 j2 j3))), (mS, .inl (cI, 4, .inl (k4i st s1 s2 s3))), (mD, .inl (cL, 256, .inr (.inl fD))), (m0, .inr (8, [.ref mH, .int aM, .long aC, .int mM, .long mQ, .int oV, .int pL, .int lI, .int sW, .int dP, .int sT, .long aT, .int 5, .int iW, .ref mI, .ref mJ, .ref mS, .ref mD, .int iH, .int aE, .int mN, .long sZ, .ref mX, .int tS, .int tA, .int tW, .ref mA, .ref mB, .ref mW, .ref mL, .int lS])), (mH, .inl (cI, 512, .inl u_r_107))] H := hP
                    have hD : va_D A [(mI, .inl (cL, 1200, .inr (.inl fI))), (mJ, .inl (cI, 4, .inl (k4i j0 j1 j2 j3))), (mS, .inl (cI, 4, .inl (k4i st s1 s2 s3))), (mD, .inl (cL, 256, .inr (.inl fD))), (m0, .inr (8, [.ref mH, .int aM, .long aC, .int mM, .long mQ, .int oV, .int pL, .int lI, .int sW, .int dP, .int sT, .long aT, .int 5, .int iW, .ref mI, .ref mJ, .ref mS, .ref mD, .int iH, .int aE, .int mN, .long sZ, .ref mX, .int tS, .int tA, .int tW, .ref mA, .ref mB, .ref mW, .ref mL, .int lS])), (mH, .inl (cI, 512, .inl u_r_107))] := hD
                    try dsimp only at wr_107
                    try simp only [Int32.reduceToInt, Int64.reduceToInt] at wr_107
                    refine lv_goto (tgt := 269) hx hb dX8_copies_243 (by decide) ?_
                    refine lv_iconst (v := 0) hx hb dX8_copies_269 (by decide) ?_
                    refine kIret (u := (pL, dP, 5, iW, u_r_107, fD, fI, j0, j1, j2, j3, st, s1, s2, s3)) hx hb hr rfl hlocks hS dX8_copies_270 ?_ (hP.sub [4, 5, 0, 1, 2, 3] rfl) (hD.sub [4, 5, 0, 1, 2, 3] (by decide) rfl)
                    try dsimp only
                    repeat' (with_reducible apply And.intro)
                    all_goals first | with_reducible assumption | ((try simp only [jT_, jP_, jD_, jC_, jB_, jW_, Int32.reduceToInt, Int64.reduceToInt, true_or, or_true, true_and, and_true]) <;> omega)
                refine lv_iload_n hx hb dX8_copies_165 rfl (lv_at hl 0 rfl) ?_
                refine lv_i2l hx hb dX8_copies_166 rfl ?_
                refine lv_lconst (v := 0) hx hb dX8_copies_167 (by decide) ?_
                refine lv_aload_n hx hb dX8_copies_168 rfl (lv_at hl 3 rfl) ?_
                refine va_get (D := D) (ci := 8) (v := .ref mJ) (C := RX8) (T := TX8) (N := 31) hx hb hts iX8_copies_X8 hown hK hP 0 rfl rfl 15 (by decide) (hts (.fieldLink RX8 17 "TapeCalculatorModel" "items" "[I") (List.mem_of_getElem? (i := 6) rfl)) (fun _ h9 => h9) rfl dX8_copies_169 ?_
                refine lv_iload_n hx hb dX8_copies_172 rfl (lv_at hl 1 rfl) ?_
                refine va_iald hx hb hK hP 3 0 rfl rfl (vp_in_iff.mpr (by decide)) dX8_copies_173 ?_
                refine lv_topi (fun x_108 ex_108 => ?_)
                obtain rfl : j0 = x_108 := ex_108.symm
                refine lv_iconst (v := 1) hx hb dX8_copies_174 (by decide) ?_
                refine lv_isub hx hb dX8_copies_175 ?_
                refine lv_i2l hx hb dX8_copies_176 rfl ?_
                refine kCallI (wr := [(m0, .inr (8, [.ref mH, .int aM, .long aC, .int mM, .long mQ, .int oV, .int pL, .int lI, .int sW, .int dP, .int sT, .long aT, .int 5, .int iW, .ref mI, .ref mJ, .ref mS, .ref mD, .int iH, .int aE, .int mN, .long sZ, .ref mX, .int tS, .int tA, .int tW, .ref mA, .ref mB, .ref mW, .ref mL, .int lS])), (mH, .inl (cI, 512, .inl fH)), (mI, .inl (cL, 1200, .inr (.inl fI))), (mJ, .inl (cI, 4, .inl (k4i j0 j1 j2 j3))), (mS, .inl (cI, 4, .inl (k4i s0 s1 s2 s3))), (mD, .inl (cL, 256, .inr (.inl fD)))]) (va_runS (As := [.long x_102.toInt64, .long 0, .long (j0 - 1).toInt64]) (rest := []) ⟨hx, hb, hml, hown, hts⟩ (q_in l D cI cL cB cZ cT _ (x_102.toInt64) 0 (j0 - 1).toInt64) (va_cwS 3 hts gX8_copies_X8_in rfl rfl rfl (by decide +kernel) ⟨Nat.le_of_ble_eq_true rfl, Nat.le_of_ble_eq_true rfl⟩) (kPreS hG hP hD [] rfl (by decide)) rfl rfl hl.1 rfl (lv_room (Nat.le_of_ble_eq_true rfl)) dX8_copies_177 ⟨Nat.le_of_ble_eq_true rfl, Nat.le_of_ble_eq_true rfl⟩) hA hP hD hS [] [0, 1, 2, 3, 4, 5] rfl rfl (by decide) (by decide) (fun r_109 u_r_109 H locs wr_109 hP hD hS => ?_)
                have hP : va_P D vwCl [(m0, .inr (8, [.ref mH, .int aM, .long aC, .int mM, .long mQ, .int oV, .int pL, .int lI, .int sW, .int dP, .int sT, .long aT, .int 5, .int iW, .ref mI, .ref mJ, .ref mS, .ref mD, .int iH, .int aE, .int mN, .long sZ, .ref mX, .int tS, .int tA, .int tW, .ref mA, .ref mB, .ref mW, .ref mL, .int lS])), (mH, .inl (cI, 512, .inl fH)), (mI, .inl (cL, 1200, .inr (.inl fI))), (mJ, .inl (cI, 4, .inl (k4i j0 j1 j2 j3))), (mS, .inl (cI, 4, .inl (k4i s0 s1 s2 s3))), (mD, .inl (cL, 256, .inr (.inl fD)))] H := hP
                have hD : va_D A [(m0, .inr (8, [.ref mH, .int aM, .long aC, .int mM, .long mQ, .int oV, .int pL, .int lI, .int sW, .int dP, .int sT, .long aT, .int 5, .int iW, .ref mI, .ref mJ, .ref mS, .ref mD, .int iH, .int aE, .int mN, .long sZ, .ref mX, .int tS, .int tA, .int tW, .ref mA, .ref mB, .ref mW, .ref mL, .int lS])), (mH, .inl (cI, 512, .inl fH)), (mI, .inl (cL, 1200, .inr (.inl fI))), (mJ, .inl (cI, 4, .inl (k4i j0 j1 j2 j3))), (mS, .inl (cI, 4, .inl (k4i s0 s1 s2 s3))), (mD, .inl (cL, 256, .inr (.inl fD)))] := hD
                try dsimp only at wr_109
                subst wr_109
                refine lv_if_eq (tgt := 198) hx hb dX8_copies_180 (by decide) (fun c_180_109 => ?_) (fun c_180_109 => ?_)
                · have t_180_109 := c_180_109
                  try simp only [kb_eq0, kb_ne0, lg_cmp_lt, lg_cmp_le, lg_cmp_gt, lg_cmp_ge, lg_cmp_eq] at t_180_109
                  try simp only [Int32.lt_iff_toInt_lt, Int32.le_iff_toInt_le, ← Int32.toInt_inj, Int64.lt_iff_toInt_lt, Int64.le_iff_toInt_le, ← Int64.toInt_inj, Int32.toInt_toInt64, Int32.reduceToInt, Int64.reduceToInt] at t_180_109
                  refine lv_ldc2 (v := (-9)) hx hb hown (hts (.constantLong RX8 107 (-9)) (List.mem_of_getElem? (i := 8) rfl)) dX8_copies_198 ?_
                  refine lv_lstore (lv' := [(4, .long (-9)), (3, .int x_102), (2, .int 0), (1, .int 1), (0, .ref m0)]) hx hb dX8_copies_201 hl (by decide) rfl (fun ls hl => ?_)
                  refine lv_lload hx hb dX8_copies_203 (lv_at hl 0 rfl) ?_
                  refine lv_ldc2 (v := (-9)) hx hb hown (hts (.constantLong RX8 107 (-9)) (List.mem_of_getElem? (i := 8) rfl)) dX8_copies_205 ?_
                  refine W.lcmp hx hb dX8_copies_208 ?_
                  refine lv_topi (fun x_111 ex_111 => ?_)
                  obtain rfl : x_111 = 0 := ex_111.trans (by decide)
                  refine lv_if_eq (tgt := 230) hx hb dX8_copies_209 (by decide) (fun c_209_111 => ?_) (fun c_209_111 => ?_)
                  · have t_209_111 := c_209_111
                    try simp only [kb_eq0, kb_ne0, lg_cmp_lt, lg_cmp_le, lg_cmp_gt, lg_cmp_ge, lg_cmp_eq] at t_209_111
                    try simp only [Int32.lt_iff_toInt_lt, Int32.le_iff_toInt_le, ← Int32.toInt_inj, Int64.lt_iff_toInt_lt, Int64.le_iff_toInt_le, ← Int64.toInt_inj, Int32.toInt_toInt64, Int32.reduceToInt, Int64.reduceToInt] at t_209_111
                    exact J230 (-9) s0 (by first | with_reducible assumption | ((try simp only [jT_, jP_, jD_, jC_, jB_, jW_, Int32.reduceToInt, Int64.reduceToInt, true_or, or_true, true_and, and_true]) <;> omega)) _ _ (hP.sub [0, 1, 2, 3, 4, 5] rfl) (hD.sub [0, 1, 2, 3, 4, 5] (by decide) rfl) hS ls (lv_sub hl [0, 1, 2, 3, 4] rfl)
                  · exact absurd (by decide) c_209_111
                · have t_180_109 := c_180_109
                  try simp only [kb_eq0, kb_ne0, lg_cmp_lt, lg_cmp_le, lg_cmp_gt, lg_cmp_ge, lg_cmp_eq] at t_180_109
                  try simp only [Int32.lt_iff_toInt_lt, Int32.le_iff_toInt_le, ← Int32.toInt_inj, Int64.lt_iff_toInt_lt, Int64.le_iff_toInt_le, ← Int64.toInt_inj, Int32.toInt_toInt64, Int32.reduceToInt, Int64.reduceToInt] at t_180_109
                  refine lv_aload_n hx hb dX8_copies_183 rfl (lv_at hl 3 rfl) ?_
                  refine va_get (D := D) (ci := 8) (v := .ref mI) (C := RX8) (T := TX8) (N := 31) hx hb hts iX8_copies_X8 hown hK hP 0 rfl rfl 14 (by decide) (hts (.fieldLink RX8 13 "TapeCalculatorModel" "item" "[J") (List.mem_of_getElem? (i := 7) rfl)) (fun _ h9 => h9) rfl dX8_copies_184 ?_
                  refine lv_sipush (v := 300) hx hb dX8_copies_187 (by decide) ?_
                  refine lv_iload_n hx hb dX8_copies_190 rfl (lv_at hl 1 rfl) ?_
                  refine lv_imul hx hb dX8_copies_191 ?_
                  refine lv_topi (fun x_113 ex_113 => ?_)
                  obtain rfl : x_113 = 0 := ex_113.trans (by decide)
                  refine lv_iload_n hx hb dX8_copies_192 rfl (lv_at hl 0 rfl) ?_
                  refine lv_iadd hx hb dX8_copies_193 ?_
                  refine va_lald hx hb hK hP 2 1 rfl rfl (vp_in_iff.mpr (by have hx9 := k_addg (a := 0) (b := x_102) (by decide) (by omega); simp only [Int32.reduceToInt] at hx9; omega)) dX8_copies_194 ?_
                  refine lv_goto (tgt := 201) hx hb dX8_copies_195 (by decide) ?_
                  refine lv_topl (fun x_114 ex_114 => ?_)
                  refine lv_lstore (lv' := [(4, .long x_114), (3, .int x_102), (2, .int 0), (1, .int 1), (0, .ref m0)]) hx hb dX8_copies_201 hl (by decide) rfl (fun ls hl => ?_)
                  refine lv_lload hx hb dX8_copies_203 (lv_at hl 0 rfl) ?_
                  refine lv_ldc2 (v := (-9)) hx hb hown (hts (.constantLong RX8 107 (-9)) (List.mem_of_getElem? (i := 8) rfl)) dX8_copies_205 ?_
                  refine W.lcmp hx hb dX8_copies_208 ?_
                  refine lv_if_eq (tgt := 230) hx hb dX8_copies_209 (by decide) (fun c_209_114 => ?_) (fun c_209_114 => ?_)
                  · have t_209_114 := c_209_114
                    try simp only [kb_eq0, kb_ne0, lg_cmp_lt, lg_cmp_le, lg_cmp_gt, lg_cmp_ge, lg_cmp_eq] at t_209_114
                    try simp only [Int32.lt_iff_toInt_lt, Int32.le_iff_toInt_le, ← Int32.toInt_inj, Int64.lt_iff_toInt_lt, Int64.le_iff_toInt_le, ← Int64.toInt_inj, Int32.toInt_toInt64, Int32.reduceToInt, Int64.reduceToInt] at t_209_114
                    exact J230 x_114 s0 (by first | with_reducible assumption | ((try simp only [jT_, jP_, jD_, jC_, jB_, jW_, Int32.reduceToInt, Int64.reduceToInt, true_or, or_true, true_and, and_true]) <;> omega)) _ _ (hP.sub [0, 1, 2, 3, 4, 5] rfl) (hD.sub [0, 1, 2, 3, 4, 5] (by decide) rfl) hS ls (lv_sub hl [0, 1, 2, 3, 4] rfl)
                  · have t_209_114 := c_209_114
                    try simp only [kb_eq0, kb_ne0, lg_cmp_lt, lg_cmp_le, lg_cmp_gt, lg_cmp_ge, lg_cmp_eq] at t_209_114
                    try simp only [Int32.lt_iff_toInt_lt, Int32.le_iff_toInt_le, ← Int32.toInt_inj, Int64.lt_iff_toInt_lt, Int64.le_iff_toInt_le, ← Int64.toInt_inj, Int32.toInt_toInt64, Int32.reduceToInt, Int64.reduceToInt] at t_209_114
                    refine lv_aload_n hx hb dX8_copies_212 rfl (lv_at hl 4 rfl) ?_
                    refine va_get (D := D) (ci := 8) (v := .ref mS) (C := RX8) (T := TX8) (N := 31) hx hb hts iX8_copies_X8 hown hK hP 0 rfl rfl 16 (by decide) (hts (.fieldLink RX8 20 "TapeCalculatorModel" "stands" "[I") (List.mem_of_getElem? (i := 5) rfl)) (fun _ h9 => h9) rfl dX8_copies_213 ?_
                    refine lv_iload_n hx hb dX8_copies_216 rfl (lv_at hl 2 rfl) ?_
                    refine lv_dup2_11 hx hb dX8_copies_217 rfl rfl ?_
                    refine va_iald hx hb hK hP 4 0 rfl rfl (vp_in_iff.mpr (by decide)) dX8_copies_218 ?_
                    refine lv_topi (fun x_116 ex_116 => ?_)
                    obtain rfl : s0 = x_116 := ex_116.symm
                    refine lv_iload_n hx hb dX8_copies_219 rfl (lv_at hl 3 rfl) ?_
                    refine lv_if_eq (tgt := 227) hx hb dX8_copies_220 (by decide) (fun c_220_116 => ?_) (fun c_220_116 => ?_)
                    · exact absurd c_220_116 (by decide)
                    · have t_220_116 := c_220_116
                      try simp only [kb_eq0, kb_ne0, lg_cmp_lt, lg_cmp_le, lg_cmp_gt, lg_cmp_ge, lg_cmp_eq] at t_220_116
                      try simp only [Int32.lt_iff_toInt_lt, Int32.le_iff_toInt_le, ← Int32.toInt_inj, Int64.lt_iff_toInt_lt, Int64.le_iff_toInt_le, ← Int64.toInt_inj, Int32.toInt_toInt64, Int32.reduceToInt, Int64.reduceToInt] at t_220_116
                      refine lv_iconst (v := (-1)) hx hb dX8_copies_223 (by decide) ?_
                      refine lv_goto (tgt := 228) hx hb dX8_copies_224 (by decide) ?_
                      refine lv_iadd hx hb dX8_copies_228 ?_
                      refine va_iast hx hb hK hP hD hS 4 0 rfl rfl (vp_in_iff.mpr (by decide)) dX8_copies_229 (fun H locs hP hD hS => ?_)
                      rw [k4i_0] at hP hD
                      have hP : va_P D vwCl [(m0, .inr (8, [.ref mH, .int aM, .long aC, .int mM, .long mQ, .int oV, .int pL, .int lI, .int sW, .int dP, .int sT, .long aT, .int 5, .int iW, .ref mI, .ref mJ, .ref mS, .ref mD, .int iH, .int aE, .int mN, .long sZ, .ref mX, .int tS, .int tA, .int tW, .ref mA, .ref mB, .ref mW, .ref mL, .int lS])), (mH, .inl (cI, 512, .inl fH)), (mI, .inl (cL, 1200, .inr (.inl fI))), (mJ, .inl (cI, 4, .inl (k4i j0 j1 j2 j3))), (mS, .inl (cI, 4, .inl (k4i (s0 + (-1)) s1 s2 s3))), (mD, .inl (cL, 256, .inr (.inl fD)))] H := hP
                      have hD : va_D A [(m0, .inr (8, [.ref mH, .int aM, .long aC, .int mM, .long mQ, .int oV, .int pL, .int lI, .int sW, .int dP, .int sT, .long aT, .int 5, .int iW, .ref mI, .ref mJ, .ref mS, .ref mD, .int iH, .int aE, .int mN, .long sZ, .ref mX, .int tS, .int tA, .int tW, .ref mA, .ref mB, .ref mW, .ref mL, .int lS])), (mH, .inl (cI, 512, .inl fH)), (mI, .inl (cL, 1200, .inr (.inl fI))), (mJ, .inl (cI, 4, .inl (k4i j0 j1 j2 j3))), (mS, .inl (cI, 4, .inl (k4i (s0 + (-1)) s1 s2 s3))), (mD, .inl (cL, 256, .inr (.inl fD)))] := hD
                      exact J230 x_114 (s0 + (-1)) (by first | with_reducible assumption | ((try simp only [jT_, jP_, jD_, jC_, jB_, jW_, Int32.reduceToInt, Int64.reduceToInt, true_or, or_true, true_and, and_true]) <;> omega)) _ _ (hP.sub [0, 1, 2, 3, 4, 5] rfl) (hD.sub [0, 1, 2, 3, 4, 5] (by decide) rfl) hS ls (lv_sub hl [0, 1, 2, 3, 4] rfl)
        · exact absurd (by decide) c_79_95
      · exact absurd (by decide) c_16_94
    · exact absurd c_4_93 (by decide)
  · have hiw1 : iW.toInt = 0 := by simp only [jW_, Int32.reduceToInt] at hiw; omega
    have hu1 : 0 ≤ s1.toInt ∧ s1.toInt ≤ j1.toInt ∧ j1.toInt ≤ 300 := ht1
    have hs0 := k_sub (a := j1) (b := 1) (by omega) (by decide)
    simp only [Int32.reduceToInt] at hs0
    have hs1 := k_sub (a := s1) (b := 1) (by omega) (by decide)
    simp only [Int32.reduceToInt] at hs1
    have hs2 := k_addg (a := s1) (b := 1) (by omega) (by decide)
    have hs3 := k_addg (a := s1) (b := (-1)) (by omega) (by decide)
    simp only [Int32.reduceToInt, show (-1 : Int32).toInt = -1 from rfl] at hs2 hs3
    refine lv_aload_n hx hb dX8_copies_0 rfl (lv_at hl 0 rfl) ?_
    refine va_get (D := D) (ci := 8) (v := .int 6) (C := RX8) (T := TX8) (N := 31) hx hb hts iX8_copies_X8 hown hK hP 0 rfl rfl 12 (by decide) (hts (.fieldLink RX8 43 "TapeCalculatorModel" "chosen" "I") (List.mem_of_getElem? (i := 1) rfl)) (fun _ h9 => h9) rfl dX8_copies_1 ?_
    refine lv_if_ne (tgt := 10) hx hb dX8_copies_4 (by decide) (fun c_4_117 => ?_) (fun c_4_117 => ?_)
    · have t_4_117 := c_4_117
      try simp only [kb_eq0, kb_ne0, lg_cmp_lt, lg_cmp_le, lg_cmp_gt, lg_cmp_ge, lg_cmp_eq] at t_4_117
      try simp only [Int32.lt_iff_toInt_lt, Int32.le_iff_toInt_le, ← Int32.toInt_inj, Int64.lt_iff_toInt_lt, Int64.le_iff_toInt_le, ← Int64.toInt_inj, Int32.toInt_toInt64, Int32.reduceToInt, Int64.reduceToInt] at t_4_117
      refine lv_aload_n hx hb dX8_copies_10 rfl (lv_at hl 0 rfl) ?_
      refine va_get (D := D) (ci := 8) (v := .int 6) (C := RX8) (T := TX8) (N := 31) hx hb hts iX8_copies_X8 hown hK hP 0 rfl rfl 12 (by decide) (hts (.fieldLink RX8 43 "TapeCalculatorModel" "chosen" "I") (List.mem_of_getElem? (i := 1) rfl)) (fun _ h9 => h9) rfl dX8_copies_11 ?_
      refine lv_bipush (v := 12) hx hb dX8_copies_14 (by decide) ?_
      refine lv_icmp_le (tgt := 73) hx hb dX8_copies_16 (by decide) (fun c_16_118 => ?_) (fun c_16_118 => ?_)
      · have t_16_118 := c_16_118
        try simp only [kb_eq0, kb_ne0, lg_cmp_lt, lg_cmp_le, lg_cmp_gt, lg_cmp_ge, lg_cmp_eq] at t_16_118
        try simp only [Int32.lt_iff_toInt_lt, Int32.le_iff_toInt_le, ← Int32.toInt_inj, Int64.lt_iff_toInt_lt, Int64.le_iff_toInt_le, ← Int64.toInt_inj, Int32.toInt_toInt64, Int32.reduceToInt, Int64.reduceToInt] at t_16_118
        refine lv_aload_n hx hb dX8_copies_73 rfl (lv_at hl 0 rfl) ?_
        refine va_get (D := D) (ci := 8) (v := .int 6) (C := RX8) (T := TX8) (N := 31) hx hb hts iX8_copies_X8 hown hK hP 0 rfl rfl 12 (by decide) (hts (.fieldLink RX8 43 "TapeCalculatorModel" "chosen" "I") (List.mem_of_getElem? (i := 1) rfl)) (fun _ h9 => h9) rfl dX8_copies_74 ?_
        refine lv_bipush (v := 8) hx hb dX8_copies_77 (by decide) ?_
        refine lv_icmp_le (tgt := 109) hx hb dX8_copies_79 (by decide) (fun c_79_119 => ?_) (fun c_79_119 => ?_)
        · have t_79_119 := c_79_119
          try simp only [kb_eq0, kb_ne0, lg_cmp_lt, lg_cmp_le, lg_cmp_gt, lg_cmp_ge, lg_cmp_eq] at t_79_119
          try simp only [Int32.lt_iff_toInt_lt, Int32.le_iff_toInt_le, ← Int32.toInt_inj, Int64.lt_iff_toInt_lt, Int64.le_iff_toInt_le, ← Int64.toInt_inj, Int32.toInt_toInt64, Int32.reduceToInt, Int64.reduceToInt] at t_79_119
          refine lv_aload_n hx hb dX8_copies_109 rfl (lv_at hl 0 rfl) ?_
          refine va_get (D := D) (ci := 8) (v := .int 6) (C := RX8) (T := TX8) (N := 31) hx hb hts iX8_copies_X8 hown hK hP 0 rfl rfl 12 (by decide) (hts (.fieldLink RX8 43 "TapeCalculatorModel" "chosen" "I") (List.mem_of_getElem? (i := 1) rfl)) (fun _ h9 => h9) rfl dX8_copies_110 ?_
          refine lv_iconst (v := 4) hx hb dX8_copies_113 (by decide) ?_
          refine lv_icmp_le (tgt := 121) hx hb dX8_copies_114 (by decide) (fun c_114_120 => ?_) (fun c_114_120 => ?_)
          · exact absurd c_114_120 (by decide)
          · have t_114_120 := c_114_120
            try simp only [kb_eq0, kb_ne0, lg_cmp_lt, lg_cmp_le, lg_cmp_gt, lg_cmp_ge, lg_cmp_eq] at t_114_120
            try simp only [Int32.lt_iff_toInt_lt, Int32.le_iff_toInt_le, ← Int32.toInt_inj, Int64.lt_iff_toInt_lt, Int64.le_iff_toInt_le, ← Int64.toInt_inj, Int32.toInt_toInt64, Int32.reduceToInt, Int64.reduceToInt] at t_114_120
            refine lv_iconst (v := 1) hx hb dX8_copies_117 (by decide) ?_
            refine lv_goto (tgt := 122) hx hb dX8_copies_118 (by decide) ?_
            refine lv_istore_n (lv' := [(1, .int 1), (0, .ref m0)]) hx hb dX8_copies_122 rfl hl (by decide) rfl (fun ls hl => ?_)
            refine lv_iload_n hx hb dX8_copies_123 rfl (lv_at hl 0 rfl) ?_
            refine lv_if_eq (tgt := 136) hx hb dX8_copies_124 (by decide) (fun c_124_121 => ?_) (fun c_124_121 => ?_)
            · exact absurd c_124_121 (by decide)
            · have t_124_121 := c_124_121
              try simp only [kb_eq0, kb_ne0, lg_cmp_lt, lg_cmp_le, lg_cmp_gt, lg_cmp_ge, lg_cmp_eq] at t_124_121
              try simp only [Int32.lt_iff_toInt_lt, Int32.le_iff_toInt_le, ← Int32.toInt_inj, Int64.lt_iff_toInt_lt, Int64.le_iff_toInt_le, ← Int64.toInt_inj, Int32.toInt_toInt64, Int32.reduceToInt, Int64.reduceToInt] at t_124_121
              refine lv_aload_n hx hb dX8_copies_127 rfl (lv_at hl 1 rfl) ?_
              refine va_get (D := D) (ci := 8) (v := .int 6) (C := RX8) (T := TX8) (N := 31) hx hb hts iX8_copies_X8 hown hK hP 0 rfl rfl 12 (by decide) (hts (.fieldLink RX8 43 "TapeCalculatorModel" "chosen" "I") (List.mem_of_getElem? (i := 1) rfl)) (fun _ h9 => h9) rfl dX8_copies_128 ?_
              refine lv_iconst (v := 5) hx hb dX8_copies_131 (by decide) ?_
              refine lv_isub hx hb dX8_copies_132 ?_
              refine lv_topi (fun x_123 ex_123 => ?_)
              obtain rfl : x_123 = 1 := ex_123.trans (by decide)
              refine lv_goto (tgt := 142) hx hb dX8_copies_133 (by decide) ?_
              refine lv_istore_n (lv' := [(2, .int 1), (1, .int 1), (0, .ref m0)]) hx hb dX8_copies_142 rfl hl (by decide) rfl (fun ls hl => ?_)
              refine lv_iload_n hx hb dX8_copies_143 rfl (lv_at hl 1 rfl) ?_
              refine lv_if_eq (tgt := 158) hx hb dX8_copies_144 (by decide) (fun c_144_123 => ?_) (fun c_144_123 => ?_)
              · exact absurd c_144_123 (by decide)
              · have t_144_123 := c_144_123
                try simp only [kb_eq0, kb_ne0, lg_cmp_lt, lg_cmp_le, lg_cmp_gt, lg_cmp_ge, lg_cmp_eq] at t_144_123
                try simp only [Int32.lt_iff_toInt_lt, Int32.le_iff_toInt_le, ← Int32.toInt_inj, Int64.lt_iff_toInt_lt, Int64.le_iff_toInt_le, ← Int64.toInt_inj, Int32.toInt_toInt64, Int32.reduceToInt, Int64.reduceToInt] at t_144_123
                refine lv_aload_n hx hb dX8_copies_147 rfl (lv_at hl 2 rfl) ?_
                refine va_get (D := D) (ci := 8) (v := .ref mS) (C := RX8) (T := TX8) (N := 31) hx hb hts iX8_copies_X8 hown hK hP 0 rfl rfl 16 (by decide) (hts (.fieldLink RX8 20 "TapeCalculatorModel" "stands" "[I") (List.mem_of_getElem? (i := 5) rfl)) (fun _ h9 => h9) rfl dX8_copies_148 ?_
                refine lv_iload_n hx hb dX8_copies_151 rfl (lv_at hl 0 rfl) ?_
                refine va_iald hx hb hK hP 4 0 rfl rfl (vp_in_iff.mpr (by decide)) dX8_copies_152 ?_
                refine lv_topi (fun x_125 ex_125 => ?_)
                obtain rfl : s1 = x_125 := ex_125.symm
                refine lv_iconst (v := 1) hx hb dX8_copies_153 (by decide) ?_
                refine lv_isub hx hb dX8_copies_154 ?_
                refine lv_goto (tgt := 164) hx hb dX8_copies_155 (by decide) ?_
                refine lv_topi (fun x_126 ex_126 => ?_)
                refine lv_istore_n (lv' := [(3, .int x_126), (2, .int 1), (1, .int 1), (0, .ref m0)]) hx hb dX8_copies_164 rfl hl (by decide) rfl (fun ls hl => ?_)
                rw [← ex_126] at hs1
                have J230 : ∀ (vv : Int64) (st : Int32), jT_ st j1 → ∀ (H : Heap) (locs : List Loc), va_P D vwCl [(m0, .inr (8, [.ref mH, .int aM, .long aC, .int mM, .long mQ, .int oV, .int pL, .int lI, .int sW, .int dP, .int sT, .long aT, .int 6, .int iW, .ref mI, .ref mJ, .ref mS, .ref mD, .int iH, .int aE, .int mN, .long sZ, .ref mX, .int tS, .int tA, .int tW, .ref mA, .ref mB, .ref mW, .ref mL, .int lS])), (mH, .inl (cI, 512, .inl fH)), (mI, .inl (cL, 1200, .inr (.inl fI))), (mJ, .inl (cI, 4, .inl (k4i j0 j1 j2 j3))), (mS, .inl (cI, 4, .inl (k4i s0 st s2 s3))), (mD, .inl (cL, 256, .inr (.inl fD)))] H → va_D A [(m0, .inr (8, [.ref mH, .int aM, .long aC, .int mM, .long mQ, .int oV, .int pL, .int lI, .int sW, .int dP, .int sT, .long aT, .int 6, .int iW, .ref mI, .ref mJ, .ref mS, .ref mD, .int iH, .int aE, .int mN, .long sZ, .ref mX, .int tS, .int tA, .int tW, .ref mA, .ref mB, .ref mW, .ref mL, .int lS])), (mH, .inl (cI, 512, .inl fH)), (mI, .inl (cL, 1200, .inr (.inl fI))), (mJ, .inl (cI, 4, .inl (k4i j0 j1 j2 j3))), (mS, .inl (cI, 4, .inl (k4i s0 st s2 s3))), (mD, .inl (cL, 256, .inr (.inl fD)))] → va_S A s.heap H locs → ∀ ls : Array Slot, lv_has ls 6 [(4, .long vv), (3, .int x_126), (2, .int 1), (1, .int 1), (0, .ref m0)] → W p l e ({ frames := 2, cells := 0, slots := 0, locals := 45 }) s m args below meth c H locs 0 0 (MQ below (kQ (S := (Int32 × Int32 × Int32 × Int32 × (Nat → Int32) × (Nat → Int64) × (Nat → Int64) × Int32 × Int32 × Int32 × Int32 × Int32 × Int32 × Int32 × Int32)) eI (fun r u => (0 ≤ r.toInt ∧ r.toInt ≤ 6) ∧ jP_ (u.1) ∧ jD_ (u.2.1) ∧ jC_ (u.2.2.1) ∧ jW_ (u.2.2.2.1) (u.2.2.1) ∧ jT_ (u.2.2.2.2.2.2.2.2.2.2.2.1) (u.2.2.2.2.2.2.2.1) ∧ jT_ (u.2.2.2.2.2.2.2.2.2.2.2.2.1) (u.2.2.2.2.2.2.2.2.1) ∧ jT_ (u.2.2.2.2.2.2.2.2.2.2.2.2.2.1) (u.2.2.2.2.2.2.2.2.2.1) ∧ jT_ (u.2.2.2.2.2.2.2.2.2.2.2.2.2.2) (u.2.2.2.2.2.2.2.2.2.2.1)) D (fun u => [(m0, .inr (8, [.ref mH, .int aM, .long aC, .int mM, .long mQ, .int oV, .int u.1, .int lI, .int sW, .int u.2.1, .int sT, .long aT, .int u.2.2.1, .int u.2.2.2.1, .ref mI, .ref mJ, .ref mS, .ref mD, .int iH, .int aE, .int mN, .long sZ, .ref mX, .int tS, .int tA, .int tW, .ref mA, .ref mB, .ref mW, .ref mL, .int lS])), (mH, .inl (cI, 512, .inl u.2.2.2.2.1)), (mI, .inl (cL, 1200, .inr (.inl u.2.2.2.2.2.2.1))), (mJ, .inl (cI, 4, .inl (k4i u.2.2.2.2.2.2.2.1 u.2.2.2.2.2.2.2.2.1 u.2.2.2.2.2.2.2.2.2.1 u.2.2.2.2.2.2.2.2.2.2.1))), (mS, .inl (cI, 4, .inl (k4i u.2.2.2.2.2.2.2.2.2.2.2.1 u.2.2.2.2.2.2.2.2.2.2.2.2.1 u.2.2.2.2.2.2.2.2.2.2.2.2.2.1 u.2.2.2.2.2.2.2.2.2.2.2.2.2.2))), (mD, .inl (cL, 256, .inr (.inl u.2.2.2.2.2.1)))]) A) args s 0 0 A) (F0 m 230 ls []) := by
                  intro vv st hst H locs hP hD hS ls hl
                  refine lv_lload hx hb dX8_copies_230 (lv_at hl 0 rfl) ?_
                  refine lv_lconst (v := 0) hx hb dX8_copies_232 (by decide) ?_
                  refine W.lcmp hx hb dX8_copies_233 ?_
                  refine lv_if_lt (tgt := 246) hx hb dX8_copies_234 (by decide) (fun c_234_126 => ?_) (fun c_234_126 => ?_)
                  · have t_234_126 := c_234_126
                    try simp only [kb_eq0, kb_ne0, lg_cmp_lt, lg_cmp_le, lg_cmp_gt, lg_cmp_ge, lg_cmp_eq] at t_234_126
                    try simp only [Int32.lt_iff_toInt_lt, Int32.le_iff_toInt_le, ← Int32.toInt_inj, Int64.lt_iff_toInt_lt, Int64.le_iff_toInt_le, ← Int64.toInt_inj, Int32.toInt_toInt64, Int32.reduceToInt, Int64.reduceToInt] at t_234_126
                    refine lv_aload_n hx hb dX8_copies_246 rfl (lv_at hl 4 rfl) ?_
                    refine lv_iconst (v := 0) hx hb dX8_copies_247 (by decide) ?_
                    refine va_put (D := D) (ci := 8) (v := .int 0) (ty := .int) (C := RX8) (T := TX8) (N := 31) hx hb hts iX8_copies_X8 tyX8 tyX8_ok nmX8 hown hK hP hD hS 0 rfl rfl 12 (by decide) (hts (.fieldLink RX8 43 "TapeCalculatorModel" "chosen" "I") (List.mem_of_getElem? (i := 1) rfl)) (fun _ h9 => h9) rfl (by decide +kernel) rfl rfl (Nat.le_of_ble_eq_true rfl) dX8_copies_248 (fun H locs hP hD hS => ?_)
                    have hP : va_P D vwCl [(m0, .inr (8, [.ref mH, .int aM, .long aC, .int mM, .long mQ, .int oV, .int pL, .int lI, .int sW, .int dP, .int sT, .long aT, .int 0, .int iW, .ref mI, .ref mJ, .ref mS, .ref mD, .int iH, .int aE, .int mN, .long sZ, .ref mX, .int tS, .int tA, .int tW, .ref mA, .ref mB, .ref mW, .ref mL, .int lS])), (mH, .inl (cI, 512, .inl fH)), (mI, .inl (cL, 1200, .inr (.inl fI))), (mJ, .inl (cI, 4, .inl (k4i j0 j1 j2 j3))), (mS, .inl (cI, 4, .inl (k4i s0 st s2 s3))), (mD, .inl (cL, 256, .inr (.inl fD)))] H := hP
                    have hD : va_D A [(m0, .inr (8, [.ref mH, .int aM, .long aC, .int mM, .long mQ, .int oV, .int pL, .int lI, .int sW, .int dP, .int sT, .long aT, .int 0, .int iW, .ref mI, .ref mJ, .ref mS, .ref mD, .int iH, .int aE, .int mN, .long sZ, .ref mX, .int tS, .int tA, .int tW, .ref mA, .ref mB, .ref mW, .ref mL, .int lS])), (mH, .inl (cI, 512, .inl fH)), (mI, .inl (cL, 1200, .inr (.inl fI))), (mJ, .inl (cI, 4, .inl (k4i j0 j1 j2 j3))), (mS, .inl (cI, 4, .inl (k4i s0 st s2 s3))), (mD, .inl (cL, 256, .inr (.inl fD)))] := hD
                    refine lv_aload_n hx hb dX8_copies_251 rfl (lv_at hl 4 rfl) ?_
                    refine lv_lload hx hb dX8_copies_252 (lv_at hl 0 rfl) ?_
                    refine lv_ldc2 (v := (-2)) hx hb hown (hts (.constantLong RX8 111 (-2)) (List.mem_of_getElem? (i := 9) rfl)) dX8_copies_254 ?_
                    refine W.lcmp hx hb dX8_copies_257 ?_
                    refine lv_if_ne (tgt := 265) hx hb dX8_copies_258 (by decide) (fun c_258_127 => ?_) (fun c_258_127 => ?_)
                    · have t_258_127 := c_258_127
                      try simp only [kb_eq0, kb_ne0, lg_cmp_lt, lg_cmp_le, lg_cmp_gt, lg_cmp_ge, lg_cmp_eq] at t_258_127
                      try simp only [Int32.lt_iff_toInt_lt, Int32.le_iff_toInt_le, ← Int32.toInt_inj, Int64.lt_iff_toInt_lt, Int64.le_iff_toInt_le, ← Int64.toInt_inj, Int32.toInt_toInt64, Int32.reduceToInt, Int64.reduceToInt] at t_258_127
                      refine lv_iconst (v := 1) hx hb dX8_copies_265 (by decide) ?_
                      refine kCallVd (wr := [(mH, .inl (cI, 512, .inl fH)), (mI, .inl (cL, 1200, .inr (.inl fI))), (mJ, .inl (cI, 4, .inl (k4i j0 j1 j2 j3))), (mS, .inl (cI, 4, .inl (k4i s0 st s2 s3))), (mD, .inl (cL, 256, .inr (.inl fD)))]) (va_runV (As := [.int 1]) (rest := []) ⟨hx, hb, hml, hown, hts⟩ (q_go l D cI cL cB cZ cT _ m0 mH mI mJ mS mD mX mA mB mW mL aM aC mM mQ oV pL lI sW dP sT aT 0 iW iH aE mN sZ tS tA tW lS 1) (cwV 1 hts gX8_copies_X8_go rfl rfl rfl (by decide +kernel) ⟨Nat.le_of_ble_eq_true rfl, Nat.le_of_ble_eq_true rfl⟩) (kPreV hG hP hD [0] rfl (by decide) 0 8 rfl rfl rfl) rfl rfl hl.1 rfl (lv_room (Nat.le_of_ble_eq_true rfl)) dX8_copies_266 ⟨Nat.le_of_ble_eq_true rfl, Nat.le_of_ble_eq_true rfl⟩) hA hP hD hS [0] [1, 2, 3, 4, 5] rfl rfl (by decide) (by decide) (fun _ u_r_129 H locs wr_129 hP hD hS => ?_)
                      have hP : va_P D vwCl [(mH, .inl (cI, 512, .inl fH)), (mI, .inl (cL, 1200, .inr (.inl fI))), (mJ, .inl (cI, 4, .inl (k4i j0 j1 j2 j3))), (mS, .inl (cI, 4, .inl (k4i s0 st s2 s3))), (mD, .inl (cL, 256, .inr (.inl fD))), (m0, .inr (8, [.ref mH, .int aM, .long aC, .int mM, .long mQ, .int oV, .int u_r_129, .int lI, .int sW, .int dP, .int sT, .long aT, .int 0, .int iW, .ref mI, .ref mJ, .ref mS, .ref mD, .int iH, .int aE, .int mN, .long sZ, .ref mX, .int tS, .int tA, .int tW, .ref mA, .ref mB, .ref mW, .ref mL, .int lS]))] H := hP
                      have hD : va_D A [(mH, .inl (cI, 512, .inl fH)), (mI, .inl (cL, 1200, .inr (.inl fI))), (mJ, .inl (cI, 4, .inl (k4i j0 j1 j2 j3))), (mS, .inl (cI, 4, .inl (k4i s0 st s2 s3))), (mD, .inl (cL, 256, .inr (.inl fD))), (m0, .inr (8, [.ref mH, .int aM, .long aC, .int mM, .long mQ, .int oV, .int u_r_129, .int lI, .int sW, .int dP, .int sT, .long aT, .int 0, .int iW, .ref mI, .ref mJ, .ref mS, .ref mD, .int iH, .int aE, .int mN, .long sZ, .ref mX, .int tS, .int tA, .int tW, .ref mA, .ref mB, .ref mW, .ref mL, .int lS]))] := hD
                      try dsimp only at wr_129
                      try simp only [Int32.reduceToInt, Int64.reduceToInt] at wr_129
                      refine lv_iconst (v := 0) hx hb dX8_copies_269 (by decide) ?_
                      refine kIret (u := (u_r_129, dP, 0, iW, fH, fD, fI, j0, j1, j2, j3, s0, st, s2, s3)) hx hb hr rfl hlocks hS dX8_copies_270 ?_ (hP.sub [5, 0, 1, 2, 3, 4] rfl) (hD.sub [5, 0, 1, 2, 3, 4] (by decide) rfl)
                      try dsimp only
                      repeat' (with_reducible apply And.intro)
                      all_goals first | with_reducible assumption | ((try simp only [jT_, jP_, jD_, jC_, jB_, jW_, Int32.reduceToInt, Int64.reduceToInt, true_or, or_true, true_and, and_true]) <;> omega)
                    · have t_258_127 := c_258_127
                      try simp only [kb_eq0, kb_ne0, lg_cmp_lt, lg_cmp_le, lg_cmp_gt, lg_cmp_ge, lg_cmp_eq] at t_258_127
                      try simp only [Int32.lt_iff_toInt_lt, Int32.le_iff_toInt_le, ← Int32.toInt_inj, Int64.lt_iff_toInt_lt, Int64.le_iff_toInt_le, ← Int64.toInt_inj, Int32.toInt_toInt64, Int32.reduceToInt, Int64.reduceToInt] at t_258_127
                      refine lv_iconst (v := 2) hx hb dX8_copies_261 (by decide) ?_
                      refine lv_goto (tgt := 266) hx hb dX8_copies_262 (by decide) ?_
                      refine kCallVd (wr := [(mH, .inl (cI, 512, .inl fH)), (mI, .inl (cL, 1200, .inr (.inl fI))), (mJ, .inl (cI, 4, .inl (k4i j0 j1 j2 j3))), (mS, .inl (cI, 4, .inl (k4i s0 st s2 s3))), (mD, .inl (cL, 256, .inr (.inl fD)))]) (va_runV (As := [.int 2]) (rest := []) ⟨hx, hb, hml, hown, hts⟩ (q_go l D cI cL cB cZ cT _ m0 mH mI mJ mS mD mX mA mB mW mL aM aC mM mQ oV pL lI sW dP sT aT 0 iW iH aE mN sZ tS tA tW lS 2) (cwV 1 hts gX8_copies_X8_go rfl rfl rfl (by decide +kernel) ⟨Nat.le_of_ble_eq_true rfl, Nat.le_of_ble_eq_true rfl⟩) (kPreV hG hP hD [0] rfl (by decide) 0 8 rfl rfl rfl) rfl rfl hl.1 rfl (lv_room (Nat.le_of_ble_eq_true rfl)) dX8_copies_266 ⟨Nat.le_of_ble_eq_true rfl, Nat.le_of_ble_eq_true rfl⟩) hA hP hD hS [0] [1, 2, 3, 4, 5] rfl rfl (by decide) (by decide) (fun _ u_r_130 H locs wr_130 hP hD hS => ?_)
                      have hP : va_P D vwCl [(mH, .inl (cI, 512, .inl fH)), (mI, .inl (cL, 1200, .inr (.inl fI))), (mJ, .inl (cI, 4, .inl (k4i j0 j1 j2 j3))), (mS, .inl (cI, 4, .inl (k4i s0 st s2 s3))), (mD, .inl (cL, 256, .inr (.inl fD))), (m0, .inr (8, [.ref mH, .int aM, .long aC, .int mM, .long mQ, .int oV, .int u_r_130, .int lI, .int sW, .int dP, .int sT, .long aT, .int 0, .int iW, .ref mI, .ref mJ, .ref mS, .ref mD, .int iH, .int aE, .int mN, .long sZ, .ref mX, .int tS, .int tA, .int tW, .ref mA, .ref mB, .ref mW, .ref mL, .int lS]))] H := hP
                      have hD : va_D A [(mH, .inl (cI, 512, .inl fH)), (mI, .inl (cL, 1200, .inr (.inl fI))), (mJ, .inl (cI, 4, .inl (k4i j0 j1 j2 j3))), (mS, .inl (cI, 4, .inl (k4i s0 st s2 s3))), (mD, .inl (cL, 256, .inr (.inl fD))), (m0, .inr (8, [.ref mH, .int aM, .long aC, .int mM, .long mQ, .int oV, .int u_r_130, .int lI, .int sW, .int dP, .int sT, .long aT, .int 0, .int iW, .ref mI, .ref mJ, .ref mS, .ref mD, .int iH, .int aE, .int mN, .long sZ, .ref mX, .int tS, .int tA, .int tW, .ref mA, .ref mB, .ref mW, .ref mL, .int lS]))] := hD
                      try dsimp only at wr_130
                      try simp only [Int32.reduceToInt, Int64.reduceToInt] at wr_130
                      refine lv_iconst (v := 0) hx hb dX8_copies_269 (by decide) ?_
                      refine kIret (u := (u_r_130, dP, 0, iW, fH, fD, fI, j0, j1, j2, j3, s0, st, s2, s3)) hx hb hr rfl hlocks hS dX8_copies_270 ?_ (hP.sub [5, 0, 1, 2, 3, 4] rfl) (hD.sub [5, 0, 1, 2, 3, 4] (by decide) rfl)
                      try dsimp only
                      repeat' (with_reducible apply And.intro)
                      all_goals first | with_reducible assumption | ((try simp only [jT_, jP_, jD_, jC_, jB_, jW_, Int32.reduceToInt, Int64.reduceToInt, true_or, or_true, true_and, and_true]) <;> omega)
                  · have t_234_126 := c_234_126
                    try simp only [kb_eq0, kb_ne0, lg_cmp_lt, lg_cmp_le, lg_cmp_gt, lg_cmp_ge, lg_cmp_eq] at t_234_126
                    try simp only [Int32.lt_iff_toInt_lt, Int32.le_iff_toInt_le, ← Int32.toInt_inj, Int64.lt_iff_toInt_lt, Int64.le_iff_toInt_le, ← Int64.toInt_inj, Int32.toInt_toInt64, Int32.reduceToInt, Int64.reduceToInt] at t_234_126
                    refine lv_aload_n hx hb dX8_copies_237 rfl (lv_at hl 4 rfl) ?_
                    refine lv_lload hx hb dX8_copies_238 (lv_at hl 0 rfl) ?_
                    refine kCallVd (wr := [(mI, .inl (cL, 1200, .inr (.inl fI))), (mJ, .inl (cI, 4, .inl (k4i j0 j1 j2 j3))), (mS, .inl (cI, 4, .inl (k4i s0 st s2 s3))), (mD, .inl (cL, 256, .inr (.inl fD)))]) (va_runV (As := [.long vv]) (rest := []) ⟨hx, hb, hml, hown, hts⟩ (q_store l D cI cL cB cZ cT _ m0 mH mI mJ mS mD mX mA mB mW mL aM aC mM mQ oV pL lI sW dP sT aT 6 iW iH aE mN sZ tS tA tW lS fH vv (by omega)) (cwV 1 hts gX8_copies_X8_store rfl rfl rfl (by decide +kernel) ⟨Nat.le_of_ble_eq_true rfl, Nat.le_of_ble_eq_true rfl⟩) (kPreV hG hP hD [0, 1] rfl (by decide) 0 8 rfl rfl rfl) rfl rfl hl.1 rfl (lv_room (Nat.le_of_ble_eq_true rfl)) dX8_copies_240 ⟨Nat.le_of_ble_eq_true rfl, Nat.le_of_ble_eq_true rfl⟩) hA hP hD hS [0, 1] [2, 3, 4, 5] rfl rfl (by decide) (by decide) (fun _ u_r_131 H locs wr_131 hP hD hS => ?_)
                    have hP : va_P D vwCl [(mI, .inl (cL, 1200, .inr (.inl fI))), (mJ, .inl (cI, 4, .inl (k4i j0 j1 j2 j3))), (mS, .inl (cI, 4, .inl (k4i s0 st s2 s3))), (mD, .inl (cL, 256, .inr (.inl fD))), (m0, .inr (8, [.ref mH, .int aM, .long aC, .int mM, .long mQ, .int oV, .int pL, .int lI, .int sW, .int dP, .int sT, .long aT, .int 6, .int iW, .ref mI, .ref mJ, .ref mS, .ref mD, .int iH, .int aE, .int mN, .long sZ, .ref mX, .int tS, .int tA, .int tW, .ref mA, .ref mB, .ref mW, .ref mL, .int lS])), (mH, .inl (cI, 512, .inl u_r_131))] H := hP
                    have hD : va_D A [(mI, .inl (cL, 1200, .inr (.inl fI))), (mJ, .inl (cI, 4, .inl (k4i j0 j1 j2 j3))), (mS, .inl (cI, 4, .inl (k4i s0 st s2 s3))), (mD, .inl (cL, 256, .inr (.inl fD))), (m0, .inr (8, [.ref mH, .int aM, .long aC, .int mM, .long mQ, .int oV, .int pL, .int lI, .int sW, .int dP, .int sT, .long aT, .int 6, .int iW, .ref mI, .ref mJ, .ref mS, .ref mD, .int iH, .int aE, .int mN, .long sZ, .ref mX, .int tS, .int tA, .int tW, .ref mA, .ref mB, .ref mW, .ref mL, .int lS])), (mH, .inl (cI, 512, .inl u_r_131))] := hD
                    try dsimp only at wr_131
                    try simp only [Int32.reduceToInt, Int64.reduceToInt] at wr_131
                    refine lv_goto (tgt := 269) hx hb dX8_copies_243 (by decide) ?_
                    refine lv_iconst (v := 0) hx hb dX8_copies_269 (by decide) ?_
                    refine kIret (u := (pL, dP, 6, iW, u_r_131, fD, fI, j0, j1, j2, j3, s0, st, s2, s3)) hx hb hr rfl hlocks hS dX8_copies_270 ?_ (hP.sub [4, 5, 0, 1, 2, 3] rfl) (hD.sub [4, 5, 0, 1, 2, 3] (by decide) rfl)
                    try dsimp only
                    repeat' (with_reducible apply And.intro)
                    all_goals first | with_reducible assumption | ((try simp only [jT_, jP_, jD_, jC_, jB_, jW_, Int32.reduceToInt, Int64.reduceToInt, true_or, or_true, true_and, and_true]) <;> omega)
                refine lv_iload_n hx hb dX8_copies_165 rfl (lv_at hl 0 rfl) ?_
                refine lv_i2l hx hb dX8_copies_166 rfl ?_
                refine lv_lconst (v := 0) hx hb dX8_copies_167 (by decide) ?_
                refine lv_aload_n hx hb dX8_copies_168 rfl (lv_at hl 3 rfl) ?_
                refine va_get (D := D) (ci := 8) (v := .ref mJ) (C := RX8) (T := TX8) (N := 31) hx hb hts iX8_copies_X8 hown hK hP 0 rfl rfl 15 (by decide) (hts (.fieldLink RX8 17 "TapeCalculatorModel" "items" "[I") (List.mem_of_getElem? (i := 6) rfl)) (fun _ h9 => h9) rfl dX8_copies_169 ?_
                refine lv_iload_n hx hb dX8_copies_172 rfl (lv_at hl 1 rfl) ?_
                refine va_iald hx hb hK hP 3 0 rfl rfl (vp_in_iff.mpr (by decide)) dX8_copies_173 ?_
                refine lv_topi (fun x_132 ex_132 => ?_)
                obtain rfl : j1 = x_132 := ex_132.symm
                refine lv_iconst (v := 1) hx hb dX8_copies_174 (by decide) ?_
                refine lv_isub hx hb dX8_copies_175 ?_
                refine lv_i2l hx hb dX8_copies_176 rfl ?_
                refine kCallI (wr := [(m0, .inr (8, [.ref mH, .int aM, .long aC, .int mM, .long mQ, .int oV, .int pL, .int lI, .int sW, .int dP, .int sT, .long aT, .int 6, .int iW, .ref mI, .ref mJ, .ref mS, .ref mD, .int iH, .int aE, .int mN, .long sZ, .ref mX, .int tS, .int tA, .int tW, .ref mA, .ref mB, .ref mW, .ref mL, .int lS])), (mH, .inl (cI, 512, .inl fH)), (mI, .inl (cL, 1200, .inr (.inl fI))), (mJ, .inl (cI, 4, .inl (k4i j0 j1 j2 j3))), (mS, .inl (cI, 4, .inl (k4i s0 s1 s2 s3))), (mD, .inl (cL, 256, .inr (.inl fD)))]) (va_runS (As := [.long x_126.toInt64, .long 0, .long (j1 - 1).toInt64]) (rest := []) ⟨hx, hb, hml, hown, hts⟩ (q_in l D cI cL cB cZ cT _ (x_126.toInt64) 0 (j1 - 1).toInt64) (va_cwS 3 hts gX8_copies_X8_in rfl rfl rfl (by decide +kernel) ⟨Nat.le_of_ble_eq_true rfl, Nat.le_of_ble_eq_true rfl⟩) (kPreS hG hP hD [] rfl (by decide)) rfl rfl hl.1 rfl (lv_room (Nat.le_of_ble_eq_true rfl)) dX8_copies_177 ⟨Nat.le_of_ble_eq_true rfl, Nat.le_of_ble_eq_true rfl⟩) hA hP hD hS [] [0, 1, 2, 3, 4, 5] rfl rfl (by decide) (by decide) (fun r_133 u_r_133 H locs wr_133 hP hD hS => ?_)
                have hP : va_P D vwCl [(m0, .inr (8, [.ref mH, .int aM, .long aC, .int mM, .long mQ, .int oV, .int pL, .int lI, .int sW, .int dP, .int sT, .long aT, .int 6, .int iW, .ref mI, .ref mJ, .ref mS, .ref mD, .int iH, .int aE, .int mN, .long sZ, .ref mX, .int tS, .int tA, .int tW, .ref mA, .ref mB, .ref mW, .ref mL, .int lS])), (mH, .inl (cI, 512, .inl fH)), (mI, .inl (cL, 1200, .inr (.inl fI))), (mJ, .inl (cI, 4, .inl (k4i j0 j1 j2 j3))), (mS, .inl (cI, 4, .inl (k4i s0 s1 s2 s3))), (mD, .inl (cL, 256, .inr (.inl fD)))] H := hP
                have hD : va_D A [(m0, .inr (8, [.ref mH, .int aM, .long aC, .int mM, .long mQ, .int oV, .int pL, .int lI, .int sW, .int dP, .int sT, .long aT, .int 6, .int iW, .ref mI, .ref mJ, .ref mS, .ref mD, .int iH, .int aE, .int mN, .long sZ, .ref mX, .int tS, .int tA, .int tW, .ref mA, .ref mB, .ref mW, .ref mL, .int lS])), (mH, .inl (cI, 512, .inl fH)), (mI, .inl (cL, 1200, .inr (.inl fI))), (mJ, .inl (cI, 4, .inl (k4i j0 j1 j2 j3))), (mS, .inl (cI, 4, .inl (k4i s0 s1 s2 s3))), (mD, .inl (cL, 256, .inr (.inl fD)))] := hD
                try dsimp only at wr_133
                subst wr_133
                refine lv_if_eq (tgt := 198) hx hb dX8_copies_180 (by decide) (fun c_180_133 => ?_) (fun c_180_133 => ?_)
                · have t_180_133 := c_180_133
                  try simp only [kb_eq0, kb_ne0, lg_cmp_lt, lg_cmp_le, lg_cmp_gt, lg_cmp_ge, lg_cmp_eq] at t_180_133
                  try simp only [Int32.lt_iff_toInt_lt, Int32.le_iff_toInt_le, ← Int32.toInt_inj, Int64.lt_iff_toInt_lt, Int64.le_iff_toInt_le, ← Int64.toInt_inj, Int32.toInt_toInt64, Int32.reduceToInt, Int64.reduceToInt] at t_180_133
                  refine lv_ldc2 (v := (-9)) hx hb hown (hts (.constantLong RX8 107 (-9)) (List.mem_of_getElem? (i := 8) rfl)) dX8_copies_198 ?_
                  refine lv_lstore (lv' := [(4, .long (-9)), (3, .int x_126), (2, .int 1), (1, .int 1), (0, .ref m0)]) hx hb dX8_copies_201 hl (by decide) rfl (fun ls hl => ?_)
                  refine lv_lload hx hb dX8_copies_203 (lv_at hl 0 rfl) ?_
                  refine lv_ldc2 (v := (-9)) hx hb hown (hts (.constantLong RX8 107 (-9)) (List.mem_of_getElem? (i := 8) rfl)) dX8_copies_205 ?_
                  refine W.lcmp hx hb dX8_copies_208 ?_
                  refine lv_topi (fun x_135 ex_135 => ?_)
                  obtain rfl : x_135 = 0 := ex_135.trans (by decide)
                  refine lv_if_eq (tgt := 230) hx hb dX8_copies_209 (by decide) (fun c_209_135 => ?_) (fun c_209_135 => ?_)
                  · have t_209_135 := c_209_135
                    try simp only [kb_eq0, kb_ne0, lg_cmp_lt, lg_cmp_le, lg_cmp_gt, lg_cmp_ge, lg_cmp_eq] at t_209_135
                    try simp only [Int32.lt_iff_toInt_lt, Int32.le_iff_toInt_le, ← Int32.toInt_inj, Int64.lt_iff_toInt_lt, Int64.le_iff_toInt_le, ← Int64.toInt_inj, Int32.toInt_toInt64, Int32.reduceToInt, Int64.reduceToInt] at t_209_135
                    exact J230 (-9) s1 (by first | with_reducible assumption | ((try simp only [jT_, jP_, jD_, jC_, jB_, jW_, Int32.reduceToInt, Int64.reduceToInt, true_or, or_true, true_and, and_true]) <;> omega)) _ _ (hP.sub [0, 1, 2, 3, 4, 5] rfl) (hD.sub [0, 1, 2, 3, 4, 5] (by decide) rfl) hS ls (lv_sub hl [0, 1, 2, 3, 4] rfl)
                  · exact absurd (by decide) c_209_135
                · have t_180_133 := c_180_133
                  try simp only [kb_eq0, kb_ne0, lg_cmp_lt, lg_cmp_le, lg_cmp_gt, lg_cmp_ge, lg_cmp_eq] at t_180_133
                  try simp only [Int32.lt_iff_toInt_lt, Int32.le_iff_toInt_le, ← Int32.toInt_inj, Int64.lt_iff_toInt_lt, Int64.le_iff_toInt_le, ← Int64.toInt_inj, Int32.toInt_toInt64, Int32.reduceToInt, Int64.reduceToInt] at t_180_133
                  refine lv_aload_n hx hb dX8_copies_183 rfl (lv_at hl 3 rfl) ?_
                  refine va_get (D := D) (ci := 8) (v := .ref mI) (C := RX8) (T := TX8) (N := 31) hx hb hts iX8_copies_X8 hown hK hP 0 rfl rfl 14 (by decide) (hts (.fieldLink RX8 13 "TapeCalculatorModel" "item" "[J") (List.mem_of_getElem? (i := 7) rfl)) (fun _ h9 => h9) rfl dX8_copies_184 ?_
                  refine lv_sipush (v := 300) hx hb dX8_copies_187 (by decide) ?_
                  refine lv_iload_n hx hb dX8_copies_190 rfl (lv_at hl 1 rfl) ?_
                  refine lv_imul hx hb dX8_copies_191 ?_
                  refine lv_topi (fun x_137 ex_137 => ?_)
                  obtain rfl : x_137 = 300 := ex_137.trans (by decide)
                  refine lv_iload_n hx hb dX8_copies_192 rfl (lv_at hl 0 rfl) ?_
                  refine lv_iadd hx hb dX8_copies_193 ?_
                  refine va_lald hx hb hK hP 2 1 rfl rfl (vp_in_iff.mpr (by have hx9 := k_addg (a := 300) (b := x_126) (by decide) (by omega); simp only [Int32.reduceToInt] at hx9; omega)) dX8_copies_194 ?_
                  refine lv_goto (tgt := 201) hx hb dX8_copies_195 (by decide) ?_
                  refine lv_topl (fun x_138 ex_138 => ?_)
                  refine lv_lstore (lv' := [(4, .long x_138), (3, .int x_126), (2, .int 1), (1, .int 1), (0, .ref m0)]) hx hb dX8_copies_201 hl (by decide) rfl (fun ls hl => ?_)
                  refine lv_lload hx hb dX8_copies_203 (lv_at hl 0 rfl) ?_
                  refine lv_ldc2 (v := (-9)) hx hb hown (hts (.constantLong RX8 107 (-9)) (List.mem_of_getElem? (i := 8) rfl)) dX8_copies_205 ?_
                  refine W.lcmp hx hb dX8_copies_208 ?_
                  refine lv_if_eq (tgt := 230) hx hb dX8_copies_209 (by decide) (fun c_209_138 => ?_) (fun c_209_138 => ?_)
                  · have t_209_138 := c_209_138
                    try simp only [kb_eq0, kb_ne0, lg_cmp_lt, lg_cmp_le, lg_cmp_gt, lg_cmp_ge, lg_cmp_eq] at t_209_138
                    try simp only [Int32.lt_iff_toInt_lt, Int32.le_iff_toInt_le, ← Int32.toInt_inj, Int64.lt_iff_toInt_lt, Int64.le_iff_toInt_le, ← Int64.toInt_inj, Int32.toInt_toInt64, Int32.reduceToInt, Int64.reduceToInt] at t_209_138
                    exact J230 x_138 s1 (by first | with_reducible assumption | ((try simp only [jT_, jP_, jD_, jC_, jB_, jW_, Int32.reduceToInt, Int64.reduceToInt, true_or, or_true, true_and, and_true]) <;> omega)) _ _ (hP.sub [0, 1, 2, 3, 4, 5] rfl) (hD.sub [0, 1, 2, 3, 4, 5] (by decide) rfl) hS ls (lv_sub hl [0, 1, 2, 3, 4] rfl)
                  · have t_209_138 := c_209_138
                    try simp only [kb_eq0, kb_ne0, lg_cmp_lt, lg_cmp_le, lg_cmp_gt, lg_cmp_ge, lg_cmp_eq] at t_209_138
                    try simp only [Int32.lt_iff_toInt_lt, Int32.le_iff_toInt_le, ← Int32.toInt_inj, Int64.lt_iff_toInt_lt, Int64.le_iff_toInt_le, ← Int64.toInt_inj, Int32.toInt_toInt64, Int32.reduceToInt, Int64.reduceToInt] at t_209_138
                    refine lv_aload_n hx hb dX8_copies_212 rfl (lv_at hl 4 rfl) ?_
                    refine va_get (D := D) (ci := 8) (v := .ref mS) (C := RX8) (T := TX8) (N := 31) hx hb hts iX8_copies_X8 hown hK hP 0 rfl rfl 16 (by decide) (hts (.fieldLink RX8 20 "TapeCalculatorModel" "stands" "[I") (List.mem_of_getElem? (i := 5) rfl)) (fun _ h9 => h9) rfl dX8_copies_213 ?_
                    refine lv_iload_n hx hb dX8_copies_216 rfl (lv_at hl 2 rfl) ?_
                    refine lv_dup2_11 hx hb dX8_copies_217 rfl rfl ?_
                    refine va_iald hx hb hK hP 4 0 rfl rfl (vp_in_iff.mpr (by decide)) dX8_copies_218 ?_
                    refine lv_topi (fun x_140 ex_140 => ?_)
                    obtain rfl : s1 = x_140 := ex_140.symm
                    refine lv_iload_n hx hb dX8_copies_219 rfl (lv_at hl 3 rfl) ?_
                    refine lv_if_eq (tgt := 227) hx hb dX8_copies_220 (by decide) (fun c_220_140 => ?_) (fun c_220_140 => ?_)
                    · exact absurd c_220_140 (by decide)
                    · have t_220_140 := c_220_140
                      try simp only [kb_eq0, kb_ne0, lg_cmp_lt, lg_cmp_le, lg_cmp_gt, lg_cmp_ge, lg_cmp_eq] at t_220_140
                      try simp only [Int32.lt_iff_toInt_lt, Int32.le_iff_toInt_le, ← Int32.toInt_inj, Int64.lt_iff_toInt_lt, Int64.le_iff_toInt_le, ← Int64.toInt_inj, Int32.toInt_toInt64, Int32.reduceToInt, Int64.reduceToInt] at t_220_140
                      refine lv_iconst (v := (-1)) hx hb dX8_copies_223 (by decide) ?_
                      refine lv_goto (tgt := 228) hx hb dX8_copies_224 (by decide) ?_
                      refine lv_iadd hx hb dX8_copies_228 ?_
                      refine va_iast hx hb hK hP hD hS 4 0 rfl rfl (vp_in_iff.mpr (by decide)) dX8_copies_229 (fun H locs hP hD hS => ?_)
                      rw [k4i_1] at hP hD
                      have hP : va_P D vwCl [(m0, .inr (8, [.ref mH, .int aM, .long aC, .int mM, .long mQ, .int oV, .int pL, .int lI, .int sW, .int dP, .int sT, .long aT, .int 6, .int iW, .ref mI, .ref mJ, .ref mS, .ref mD, .int iH, .int aE, .int mN, .long sZ, .ref mX, .int tS, .int tA, .int tW, .ref mA, .ref mB, .ref mW, .ref mL, .int lS])), (mH, .inl (cI, 512, .inl fH)), (mI, .inl (cL, 1200, .inr (.inl fI))), (mJ, .inl (cI, 4, .inl (k4i j0 j1 j2 j3))), (mS, .inl (cI, 4, .inl (k4i s0 (s1 + (-1)) s2 s3))), (mD, .inl (cL, 256, .inr (.inl fD)))] H := hP
                      have hD : va_D A [(m0, .inr (8, [.ref mH, .int aM, .long aC, .int mM, .long mQ, .int oV, .int pL, .int lI, .int sW, .int dP, .int sT, .long aT, .int 6, .int iW, .ref mI, .ref mJ, .ref mS, .ref mD, .int iH, .int aE, .int mN, .long sZ, .ref mX, .int tS, .int tA, .int tW, .ref mA, .ref mB, .ref mW, .ref mL, .int lS])), (mH, .inl (cI, 512, .inl fH)), (mI, .inl (cL, 1200, .inr (.inl fI))), (mJ, .inl (cI, 4, .inl (k4i j0 j1 j2 j3))), (mS, .inl (cI, 4, .inl (k4i s0 (s1 + (-1)) s2 s3))), (mD, .inl (cL, 256, .inr (.inl fD)))] := hD
                      exact J230 x_138 (s1 + (-1)) (by first | with_reducible assumption | ((try simp only [jT_, jP_, jD_, jC_, jB_, jW_, Int32.reduceToInt, Int64.reduceToInt, true_or, or_true, true_and, and_true]) <;> omega)) _ _ (hP.sub [0, 1, 2, 3, 4, 5] rfl) (hD.sub [0, 1, 2, 3, 4, 5] (by decide) rfl) hS ls (lv_sub hl [0, 1, 2, 3, 4] rfl)
        · exact absurd (by decide) c_79_119
      · exact absurd (by decide) c_16_118
    · exact absurd c_4_117 (by decide)
  · have hiw1 : iW.toInt = 0 := by simp only [jW_, Int32.reduceToInt] at hiw; omega
    have hu2 : 0 ≤ s2.toInt ∧ s2.toInt ≤ j2.toInt ∧ j2.toInt ≤ 300 := ht2
    have hs0 := k_sub (a := j2) (b := 1) (by omega) (by decide)
    simp only [Int32.reduceToInt] at hs0
    have hs1 := k_sub (a := s2) (b := 1) (by omega) (by decide)
    simp only [Int32.reduceToInt] at hs1
    have hs2 := k_addg (a := s2) (b := 1) (by omega) (by decide)
    have hs3 := k_addg (a := s2) (b := (-1)) (by omega) (by decide)
    simp only [Int32.reduceToInt, show (-1 : Int32).toInt = -1 from rfl] at hs2 hs3
    refine lv_aload_n hx hb dX8_copies_0 rfl (lv_at hl 0 rfl) ?_
    refine va_get (D := D) (ci := 8) (v := .int 7) (C := RX8) (T := TX8) (N := 31) hx hb hts iX8_copies_X8 hown hK hP 0 rfl rfl 12 (by decide) (hts (.fieldLink RX8 43 "TapeCalculatorModel" "chosen" "I") (List.mem_of_getElem? (i := 1) rfl)) (fun _ h9 => h9) rfl dX8_copies_1 ?_
    refine lv_if_ne (tgt := 10) hx hb dX8_copies_4 (by decide) (fun c_4_141 => ?_) (fun c_4_141 => ?_)
    · have t_4_141 := c_4_141
      try simp only [kb_eq0, kb_ne0, lg_cmp_lt, lg_cmp_le, lg_cmp_gt, lg_cmp_ge, lg_cmp_eq] at t_4_141
      try simp only [Int32.lt_iff_toInt_lt, Int32.le_iff_toInt_le, ← Int32.toInt_inj, Int64.lt_iff_toInt_lt, Int64.le_iff_toInt_le, ← Int64.toInt_inj, Int32.toInt_toInt64, Int32.reduceToInt, Int64.reduceToInt] at t_4_141
      refine lv_aload_n hx hb dX8_copies_10 rfl (lv_at hl 0 rfl) ?_
      refine va_get (D := D) (ci := 8) (v := .int 7) (C := RX8) (T := TX8) (N := 31) hx hb hts iX8_copies_X8 hown hK hP 0 rfl rfl 12 (by decide) (hts (.fieldLink RX8 43 "TapeCalculatorModel" "chosen" "I") (List.mem_of_getElem? (i := 1) rfl)) (fun _ h9 => h9) rfl dX8_copies_11 ?_
      refine lv_bipush (v := 12) hx hb dX8_copies_14 (by decide) ?_
      refine lv_icmp_le (tgt := 73) hx hb dX8_copies_16 (by decide) (fun c_16_142 => ?_) (fun c_16_142 => ?_)
      · have t_16_142 := c_16_142
        try simp only [kb_eq0, kb_ne0, lg_cmp_lt, lg_cmp_le, lg_cmp_gt, lg_cmp_ge, lg_cmp_eq] at t_16_142
        try simp only [Int32.lt_iff_toInt_lt, Int32.le_iff_toInt_le, ← Int32.toInt_inj, Int64.lt_iff_toInt_lt, Int64.le_iff_toInt_le, ← Int64.toInt_inj, Int32.toInt_toInt64, Int32.reduceToInt, Int64.reduceToInt] at t_16_142
        refine lv_aload_n hx hb dX8_copies_73 rfl (lv_at hl 0 rfl) ?_
        refine va_get (D := D) (ci := 8) (v := .int 7) (C := RX8) (T := TX8) (N := 31) hx hb hts iX8_copies_X8 hown hK hP 0 rfl rfl 12 (by decide) (hts (.fieldLink RX8 43 "TapeCalculatorModel" "chosen" "I") (List.mem_of_getElem? (i := 1) rfl)) (fun _ h9 => h9) rfl dX8_copies_74 ?_
        refine lv_bipush (v := 8) hx hb dX8_copies_77 (by decide) ?_
        refine lv_icmp_le (tgt := 109) hx hb dX8_copies_79 (by decide) (fun c_79_143 => ?_) (fun c_79_143 => ?_)
        · have t_79_143 := c_79_143
          try simp only [kb_eq0, kb_ne0, lg_cmp_lt, lg_cmp_le, lg_cmp_gt, lg_cmp_ge, lg_cmp_eq] at t_79_143
          try simp only [Int32.lt_iff_toInt_lt, Int32.le_iff_toInt_le, ← Int32.toInt_inj, Int64.lt_iff_toInt_lt, Int64.le_iff_toInt_le, ← Int64.toInt_inj, Int32.toInt_toInt64, Int32.reduceToInt, Int64.reduceToInt] at t_79_143
          refine lv_aload_n hx hb dX8_copies_109 rfl (lv_at hl 0 rfl) ?_
          refine va_get (D := D) (ci := 8) (v := .int 7) (C := RX8) (T := TX8) (N := 31) hx hb hts iX8_copies_X8 hown hK hP 0 rfl rfl 12 (by decide) (hts (.fieldLink RX8 43 "TapeCalculatorModel" "chosen" "I") (List.mem_of_getElem? (i := 1) rfl)) (fun _ h9 => h9) rfl dX8_copies_110 ?_
          refine lv_iconst (v := 4) hx hb dX8_copies_113 (by decide) ?_
          refine lv_icmp_le (tgt := 121) hx hb dX8_copies_114 (by decide) (fun c_114_144 => ?_) (fun c_114_144 => ?_)
          · exact absurd c_114_144 (by decide)
          · have t_114_144 := c_114_144
            try simp only [kb_eq0, kb_ne0, lg_cmp_lt, lg_cmp_le, lg_cmp_gt, lg_cmp_ge, lg_cmp_eq] at t_114_144
            try simp only [Int32.lt_iff_toInt_lt, Int32.le_iff_toInt_le, ← Int32.toInt_inj, Int64.lt_iff_toInt_lt, Int64.le_iff_toInt_le, ← Int64.toInt_inj, Int32.toInt_toInt64, Int32.reduceToInt, Int64.reduceToInt] at t_114_144
            refine lv_iconst (v := 1) hx hb dX8_copies_117 (by decide) ?_
            refine lv_goto (tgt := 122) hx hb dX8_copies_118 (by decide) ?_
            refine lv_istore_n (lv' := [(1, .int 1), (0, .ref m0)]) hx hb dX8_copies_122 rfl hl (by decide) rfl (fun ls hl => ?_)
            refine lv_iload_n hx hb dX8_copies_123 rfl (lv_at hl 0 rfl) ?_
            refine lv_if_eq (tgt := 136) hx hb dX8_copies_124 (by decide) (fun c_124_145 => ?_) (fun c_124_145 => ?_)
            · exact absurd c_124_145 (by decide)
            · have t_124_145 := c_124_145
              try simp only [kb_eq0, kb_ne0, lg_cmp_lt, lg_cmp_le, lg_cmp_gt, lg_cmp_ge, lg_cmp_eq] at t_124_145
              try simp only [Int32.lt_iff_toInt_lt, Int32.le_iff_toInt_le, ← Int32.toInt_inj, Int64.lt_iff_toInt_lt, Int64.le_iff_toInt_le, ← Int64.toInt_inj, Int32.toInt_toInt64, Int32.reduceToInt, Int64.reduceToInt] at t_124_145
              refine lv_aload_n hx hb dX8_copies_127 rfl (lv_at hl 1 rfl) ?_
              refine va_get (D := D) (ci := 8) (v := .int 7) (C := RX8) (T := TX8) (N := 31) hx hb hts iX8_copies_X8 hown hK hP 0 rfl rfl 12 (by decide) (hts (.fieldLink RX8 43 "TapeCalculatorModel" "chosen" "I") (List.mem_of_getElem? (i := 1) rfl)) (fun _ h9 => h9) rfl dX8_copies_128 ?_
              refine lv_iconst (v := 5) hx hb dX8_copies_131 (by decide) ?_
              refine lv_isub hx hb dX8_copies_132 ?_
              refine lv_topi (fun x_147 ex_147 => ?_)
              obtain rfl : x_147 = 2 := ex_147.trans (by decide)
              refine lv_goto (tgt := 142) hx hb dX8_copies_133 (by decide) ?_
              refine lv_istore_n (lv' := [(2, .int 2), (1, .int 1), (0, .ref m0)]) hx hb dX8_copies_142 rfl hl (by decide) rfl (fun ls hl => ?_)
              refine lv_iload_n hx hb dX8_copies_143 rfl (lv_at hl 1 rfl) ?_
              refine lv_if_eq (tgt := 158) hx hb dX8_copies_144 (by decide) (fun c_144_147 => ?_) (fun c_144_147 => ?_)
              · exact absurd c_144_147 (by decide)
              · have t_144_147 := c_144_147
                try simp only [kb_eq0, kb_ne0, lg_cmp_lt, lg_cmp_le, lg_cmp_gt, lg_cmp_ge, lg_cmp_eq] at t_144_147
                try simp only [Int32.lt_iff_toInt_lt, Int32.le_iff_toInt_le, ← Int32.toInt_inj, Int64.lt_iff_toInt_lt, Int64.le_iff_toInt_le, ← Int64.toInt_inj, Int32.toInt_toInt64, Int32.reduceToInt, Int64.reduceToInt] at t_144_147
                refine lv_aload_n hx hb dX8_copies_147 rfl (lv_at hl 2 rfl) ?_
                refine va_get (D := D) (ci := 8) (v := .ref mS) (C := RX8) (T := TX8) (N := 31) hx hb hts iX8_copies_X8 hown hK hP 0 rfl rfl 16 (by decide) (hts (.fieldLink RX8 20 "TapeCalculatorModel" "stands" "[I") (List.mem_of_getElem? (i := 5) rfl)) (fun _ h9 => h9) rfl dX8_copies_148 ?_
                refine lv_iload_n hx hb dX8_copies_151 rfl (lv_at hl 0 rfl) ?_
                refine va_iald hx hb hK hP 4 0 rfl rfl (vp_in_iff.mpr (by decide)) dX8_copies_152 ?_
                refine lv_topi (fun x_149 ex_149 => ?_)
                obtain rfl : s2 = x_149 := ex_149.symm
                refine lv_iconst (v := 1) hx hb dX8_copies_153 (by decide) ?_
                refine lv_isub hx hb dX8_copies_154 ?_
                refine lv_goto (tgt := 164) hx hb dX8_copies_155 (by decide) ?_
                refine lv_topi (fun x_150 ex_150 => ?_)
                refine lv_istore_n (lv' := [(3, .int x_150), (2, .int 2), (1, .int 1), (0, .ref m0)]) hx hb dX8_copies_164 rfl hl (by decide) rfl (fun ls hl => ?_)
                rw [← ex_150] at hs1
                have J230 : ∀ (vv : Int64) (st : Int32), jT_ st j2 → ∀ (H : Heap) (locs : List Loc), va_P D vwCl [(m0, .inr (8, [.ref mH, .int aM, .long aC, .int mM, .long mQ, .int oV, .int pL, .int lI, .int sW, .int dP, .int sT, .long aT, .int 7, .int iW, .ref mI, .ref mJ, .ref mS, .ref mD, .int iH, .int aE, .int mN, .long sZ, .ref mX, .int tS, .int tA, .int tW, .ref mA, .ref mB, .ref mW, .ref mL, .int lS])), (mH, .inl (cI, 512, .inl fH)), (mI, .inl (cL, 1200, .inr (.inl fI))), (mJ, .inl (cI, 4, .inl (k4i j0 j1 j2 j3))), (mS, .inl (cI, 4, .inl (k4i s0 s1 st s3))), (mD, .inl (cL, 256, .inr (.inl fD)))] H → va_D A [(m0, .inr (8, [.ref mH, .int aM, .long aC, .int mM, .long mQ, .int oV, .int pL, .int lI, .int sW, .int dP, .int sT, .long aT, .int 7, .int iW, .ref mI, .ref mJ, .ref mS, .ref mD, .int iH, .int aE, .int mN, .long sZ, .ref mX, .int tS, .int tA, .int tW, .ref mA, .ref mB, .ref mW, .ref mL, .int lS])), (mH, .inl (cI, 512, .inl fH)), (mI, .inl (cL, 1200, .inr (.inl fI))), (mJ, .inl (cI, 4, .inl (k4i j0 j1 j2 j3))), (mS, .inl (cI, 4, .inl (k4i s0 s1 st s3))), (mD, .inl (cL, 256, .inr (.inl fD)))] → va_S A s.heap H locs → ∀ ls : Array Slot, lv_has ls 6 [(4, .long vv), (3, .int x_150), (2, .int 2), (1, .int 1), (0, .ref m0)] → W p l e ({ frames := 2, cells := 0, slots := 0, locals := 45 }) s m args below meth c H locs 0 0 (MQ below (kQ (S := (Int32 × Int32 × Int32 × Int32 × (Nat → Int32) × (Nat → Int64) × (Nat → Int64) × Int32 × Int32 × Int32 × Int32 × Int32 × Int32 × Int32 × Int32)) eI (fun r u => (0 ≤ r.toInt ∧ r.toInt ≤ 6) ∧ jP_ (u.1) ∧ jD_ (u.2.1) ∧ jC_ (u.2.2.1) ∧ jW_ (u.2.2.2.1) (u.2.2.1) ∧ jT_ (u.2.2.2.2.2.2.2.2.2.2.2.1) (u.2.2.2.2.2.2.2.1) ∧ jT_ (u.2.2.2.2.2.2.2.2.2.2.2.2.1) (u.2.2.2.2.2.2.2.2.1) ∧ jT_ (u.2.2.2.2.2.2.2.2.2.2.2.2.2.1) (u.2.2.2.2.2.2.2.2.2.1) ∧ jT_ (u.2.2.2.2.2.2.2.2.2.2.2.2.2.2) (u.2.2.2.2.2.2.2.2.2.2.1)) D (fun u => [(m0, .inr (8, [.ref mH, .int aM, .long aC, .int mM, .long mQ, .int oV, .int u.1, .int lI, .int sW, .int u.2.1, .int sT, .long aT, .int u.2.2.1, .int u.2.2.2.1, .ref mI, .ref mJ, .ref mS, .ref mD, .int iH, .int aE, .int mN, .long sZ, .ref mX, .int tS, .int tA, .int tW, .ref mA, .ref mB, .ref mW, .ref mL, .int lS])), (mH, .inl (cI, 512, .inl u.2.2.2.2.1)), (mI, .inl (cL, 1200, .inr (.inl u.2.2.2.2.2.2.1))), (mJ, .inl (cI, 4, .inl (k4i u.2.2.2.2.2.2.2.1 u.2.2.2.2.2.2.2.2.1 u.2.2.2.2.2.2.2.2.2.1 u.2.2.2.2.2.2.2.2.2.2.1))), (mS, .inl (cI, 4, .inl (k4i u.2.2.2.2.2.2.2.2.2.2.2.1 u.2.2.2.2.2.2.2.2.2.2.2.2.1 u.2.2.2.2.2.2.2.2.2.2.2.2.2.1 u.2.2.2.2.2.2.2.2.2.2.2.2.2.2))), (mD, .inl (cL, 256, .inr (.inl u.2.2.2.2.2.1)))]) A) args s 0 0 A) (F0 m 230 ls []) := by
                  intro vv st hst H locs hP hD hS ls hl
                  refine lv_lload hx hb dX8_copies_230 (lv_at hl 0 rfl) ?_
                  refine lv_lconst (v := 0) hx hb dX8_copies_232 (by decide) ?_
                  refine W.lcmp hx hb dX8_copies_233 ?_
                  refine lv_if_lt (tgt := 246) hx hb dX8_copies_234 (by decide) (fun c_234_150 => ?_) (fun c_234_150 => ?_)
                  · have t_234_150 := c_234_150
                    try simp only [kb_eq0, kb_ne0, lg_cmp_lt, lg_cmp_le, lg_cmp_gt, lg_cmp_ge, lg_cmp_eq] at t_234_150
                    try simp only [Int32.lt_iff_toInt_lt, Int32.le_iff_toInt_le, ← Int32.toInt_inj, Int64.lt_iff_toInt_lt, Int64.le_iff_toInt_le, ← Int64.toInt_inj, Int32.toInt_toInt64, Int32.reduceToInt, Int64.reduceToInt] at t_234_150
                    refine lv_aload_n hx hb dX8_copies_246 rfl (lv_at hl 4 rfl) ?_
                    refine lv_iconst (v := 0) hx hb dX8_copies_247 (by decide) ?_
                    refine va_put (D := D) (ci := 8) (v := .int 0) (ty := .int) (C := RX8) (T := TX8) (N := 31) hx hb hts iX8_copies_X8 tyX8 tyX8_ok nmX8 hown hK hP hD hS 0 rfl rfl 12 (by decide) (hts (.fieldLink RX8 43 "TapeCalculatorModel" "chosen" "I") (List.mem_of_getElem? (i := 1) rfl)) (fun _ h9 => h9) rfl (by decide +kernel) rfl rfl (Nat.le_of_ble_eq_true rfl) dX8_copies_248 (fun H locs hP hD hS => ?_)
                    have hP : va_P D vwCl [(m0, .inr (8, [.ref mH, .int aM, .long aC, .int mM, .long mQ, .int oV, .int pL, .int lI, .int sW, .int dP, .int sT, .long aT, .int 0, .int iW, .ref mI, .ref mJ, .ref mS, .ref mD, .int iH, .int aE, .int mN, .long sZ, .ref mX, .int tS, .int tA, .int tW, .ref mA, .ref mB, .ref mW, .ref mL, .int lS])), (mH, .inl (cI, 512, .inl fH)), (mI, .inl (cL, 1200, .inr (.inl fI))), (mJ, .inl (cI, 4, .inl (k4i j0 j1 j2 j3))), (mS, .inl (cI, 4, .inl (k4i s0 s1 st s3))), (mD, .inl (cL, 256, .inr (.inl fD)))] H := hP
                    have hD : va_D A [(m0, .inr (8, [.ref mH, .int aM, .long aC, .int mM, .long mQ, .int oV, .int pL, .int lI, .int sW, .int dP, .int sT, .long aT, .int 0, .int iW, .ref mI, .ref mJ, .ref mS, .ref mD, .int iH, .int aE, .int mN, .long sZ, .ref mX, .int tS, .int tA, .int tW, .ref mA, .ref mB, .ref mW, .ref mL, .int lS])), (mH, .inl (cI, 512, .inl fH)), (mI, .inl (cL, 1200, .inr (.inl fI))), (mJ, .inl (cI, 4, .inl (k4i j0 j1 j2 j3))), (mS, .inl (cI, 4, .inl (k4i s0 s1 st s3))), (mD, .inl (cL, 256, .inr (.inl fD)))] := hD
                    refine lv_aload_n hx hb dX8_copies_251 rfl (lv_at hl 4 rfl) ?_
                    refine lv_lload hx hb dX8_copies_252 (lv_at hl 0 rfl) ?_
                    refine lv_ldc2 (v := (-2)) hx hb hown (hts (.constantLong RX8 111 (-2)) (List.mem_of_getElem? (i := 9) rfl)) dX8_copies_254 ?_
                    refine W.lcmp hx hb dX8_copies_257 ?_
                    refine lv_if_ne (tgt := 265) hx hb dX8_copies_258 (by decide) (fun c_258_151 => ?_) (fun c_258_151 => ?_)
                    · have t_258_151 := c_258_151
                      try simp only [kb_eq0, kb_ne0, lg_cmp_lt, lg_cmp_le, lg_cmp_gt, lg_cmp_ge, lg_cmp_eq] at t_258_151
                      try simp only [Int32.lt_iff_toInt_lt, Int32.le_iff_toInt_le, ← Int32.toInt_inj, Int64.lt_iff_toInt_lt, Int64.le_iff_toInt_le, ← Int64.toInt_inj, Int32.toInt_toInt64, Int32.reduceToInt, Int64.reduceToInt] at t_258_151
                      refine lv_iconst (v := 1) hx hb dX8_copies_265 (by decide) ?_
                      refine kCallVd (wr := [(mH, .inl (cI, 512, .inl fH)), (mI, .inl (cL, 1200, .inr (.inl fI))), (mJ, .inl (cI, 4, .inl (k4i j0 j1 j2 j3))), (mS, .inl (cI, 4, .inl (k4i s0 s1 st s3))), (mD, .inl (cL, 256, .inr (.inl fD)))]) (va_runV (As := [.int 1]) (rest := []) ⟨hx, hb, hml, hown, hts⟩ (q_go l D cI cL cB cZ cT _ m0 mH mI mJ mS mD mX mA mB mW mL aM aC mM mQ oV pL lI sW dP sT aT 0 iW iH aE mN sZ tS tA tW lS 1) (cwV 1 hts gX8_copies_X8_go rfl rfl rfl (by decide +kernel) ⟨Nat.le_of_ble_eq_true rfl, Nat.le_of_ble_eq_true rfl⟩) (kPreV hG hP hD [0] rfl (by decide) 0 8 rfl rfl rfl) rfl rfl hl.1 rfl (lv_room (Nat.le_of_ble_eq_true rfl)) dX8_copies_266 ⟨Nat.le_of_ble_eq_true rfl, Nat.le_of_ble_eq_true rfl⟩) hA hP hD hS [0] [1, 2, 3, 4, 5] rfl rfl (by decide) (by decide) (fun _ u_r_153 H locs wr_153 hP hD hS => ?_)
                      have hP : va_P D vwCl [(mH, .inl (cI, 512, .inl fH)), (mI, .inl (cL, 1200, .inr (.inl fI))), (mJ, .inl (cI, 4, .inl (k4i j0 j1 j2 j3))), (mS, .inl (cI, 4, .inl (k4i s0 s1 st s3))), (mD, .inl (cL, 256, .inr (.inl fD))), (m0, .inr (8, [.ref mH, .int aM, .long aC, .int mM, .long mQ, .int oV, .int u_r_153, .int lI, .int sW, .int dP, .int sT, .long aT, .int 0, .int iW, .ref mI, .ref mJ, .ref mS, .ref mD, .int iH, .int aE, .int mN, .long sZ, .ref mX, .int tS, .int tA, .int tW, .ref mA, .ref mB, .ref mW, .ref mL, .int lS]))] H := hP
                      have hD : va_D A [(mH, .inl (cI, 512, .inl fH)), (mI, .inl (cL, 1200, .inr (.inl fI))), (mJ, .inl (cI, 4, .inl (k4i j0 j1 j2 j3))), (mS, .inl (cI, 4, .inl (k4i s0 s1 st s3))), (mD, .inl (cL, 256, .inr (.inl fD))), (m0, .inr (8, [.ref mH, .int aM, .long aC, .int mM, .long mQ, .int oV, .int u_r_153, .int lI, .int sW, .int dP, .int sT, .long aT, .int 0, .int iW, .ref mI, .ref mJ, .ref mS, .ref mD, .int iH, .int aE, .int mN, .long sZ, .ref mX, .int tS, .int tA, .int tW, .ref mA, .ref mB, .ref mW, .ref mL, .int lS]))] := hD
                      try dsimp only at wr_153
                      try simp only [Int32.reduceToInt, Int64.reduceToInt] at wr_153
                      refine lv_iconst (v := 0) hx hb dX8_copies_269 (by decide) ?_
                      refine kIret (u := (u_r_153, dP, 0, iW, fH, fD, fI, j0, j1, j2, j3, s0, s1, st, s3)) hx hb hr rfl hlocks hS dX8_copies_270 ?_ (hP.sub [5, 0, 1, 2, 3, 4] rfl) (hD.sub [5, 0, 1, 2, 3, 4] (by decide) rfl)
                      try dsimp only
                      repeat' (with_reducible apply And.intro)
                      all_goals first | with_reducible assumption | ((try simp only [jT_, jP_, jD_, jC_, jB_, jW_, Int32.reduceToInt, Int64.reduceToInt, true_or, or_true, true_and, and_true]) <;> omega)
                    · have t_258_151 := c_258_151
                      try simp only [kb_eq0, kb_ne0, lg_cmp_lt, lg_cmp_le, lg_cmp_gt, lg_cmp_ge, lg_cmp_eq] at t_258_151
                      try simp only [Int32.lt_iff_toInt_lt, Int32.le_iff_toInt_le, ← Int32.toInt_inj, Int64.lt_iff_toInt_lt, Int64.le_iff_toInt_le, ← Int64.toInt_inj, Int32.toInt_toInt64, Int32.reduceToInt, Int64.reduceToInt] at t_258_151
                      refine lv_iconst (v := 2) hx hb dX8_copies_261 (by decide) ?_
                      refine lv_goto (tgt := 266) hx hb dX8_copies_262 (by decide) ?_
                      refine kCallVd (wr := [(mH, .inl (cI, 512, .inl fH)), (mI, .inl (cL, 1200, .inr (.inl fI))), (mJ, .inl (cI, 4, .inl (k4i j0 j1 j2 j3))), (mS, .inl (cI, 4, .inl (k4i s0 s1 st s3))), (mD, .inl (cL, 256, .inr (.inl fD)))]) (va_runV (As := [.int 2]) (rest := []) ⟨hx, hb, hml, hown, hts⟩ (q_go l D cI cL cB cZ cT _ m0 mH mI mJ mS mD mX mA mB mW mL aM aC mM mQ oV pL lI sW dP sT aT 0 iW iH aE mN sZ tS tA tW lS 2) (cwV 1 hts gX8_copies_X8_go rfl rfl rfl (by decide +kernel) ⟨Nat.le_of_ble_eq_true rfl, Nat.le_of_ble_eq_true rfl⟩) (kPreV hG hP hD [0] rfl (by decide) 0 8 rfl rfl rfl) rfl rfl hl.1 rfl (lv_room (Nat.le_of_ble_eq_true rfl)) dX8_copies_266 ⟨Nat.le_of_ble_eq_true rfl, Nat.le_of_ble_eq_true rfl⟩) hA hP hD hS [0] [1, 2, 3, 4, 5] rfl rfl (by decide) (by decide) (fun _ u_r_154 H locs wr_154 hP hD hS => ?_)
                      have hP : va_P D vwCl [(mH, .inl (cI, 512, .inl fH)), (mI, .inl (cL, 1200, .inr (.inl fI))), (mJ, .inl (cI, 4, .inl (k4i j0 j1 j2 j3))), (mS, .inl (cI, 4, .inl (k4i s0 s1 st s3))), (mD, .inl (cL, 256, .inr (.inl fD))), (m0, .inr (8, [.ref mH, .int aM, .long aC, .int mM, .long mQ, .int oV, .int u_r_154, .int lI, .int sW, .int dP, .int sT, .long aT, .int 0, .int iW, .ref mI, .ref mJ, .ref mS, .ref mD, .int iH, .int aE, .int mN, .long sZ, .ref mX, .int tS, .int tA, .int tW, .ref mA, .ref mB, .ref mW, .ref mL, .int lS]))] H := hP
                      have hD : va_D A [(mH, .inl (cI, 512, .inl fH)), (mI, .inl (cL, 1200, .inr (.inl fI))), (mJ, .inl (cI, 4, .inl (k4i j0 j1 j2 j3))), (mS, .inl (cI, 4, .inl (k4i s0 s1 st s3))), (mD, .inl (cL, 256, .inr (.inl fD))), (m0, .inr (8, [.ref mH, .int aM, .long aC, .int mM, .long mQ, .int oV, .int u_r_154, .int lI, .int sW, .int dP, .int sT, .long aT, .int 0, .int iW, .ref mI, .ref mJ, .ref mS, .ref mD, .int iH, .int aE, .int mN, .long sZ, .ref mX, .int tS, .int tA, .int tW, .ref mA, .ref mB, .ref mW, .ref mL, .int lS]))] := hD
                      try dsimp only at wr_154
                      try simp only [Int32.reduceToInt, Int64.reduceToInt] at wr_154
                      refine lv_iconst (v := 0) hx hb dX8_copies_269 (by decide) ?_
                      refine kIret (u := (u_r_154, dP, 0, iW, fH, fD, fI, j0, j1, j2, j3, s0, s1, st, s3)) hx hb hr rfl hlocks hS dX8_copies_270 ?_ (hP.sub [5, 0, 1, 2, 3, 4] rfl) (hD.sub [5, 0, 1, 2, 3, 4] (by decide) rfl)
                      try dsimp only
                      repeat' (with_reducible apply And.intro)
                      all_goals first | with_reducible assumption | ((try simp only [jT_, jP_, jD_, jC_, jB_, jW_, Int32.reduceToInt, Int64.reduceToInt, true_or, or_true, true_and, and_true]) <;> omega)
                  · have t_234_150 := c_234_150
                    try simp only [kb_eq0, kb_ne0, lg_cmp_lt, lg_cmp_le, lg_cmp_gt, lg_cmp_ge, lg_cmp_eq] at t_234_150
                    try simp only [Int32.lt_iff_toInt_lt, Int32.le_iff_toInt_le, ← Int32.toInt_inj, Int64.lt_iff_toInt_lt, Int64.le_iff_toInt_le, ← Int64.toInt_inj, Int32.toInt_toInt64, Int32.reduceToInt, Int64.reduceToInt] at t_234_150
                    refine lv_aload_n hx hb dX8_copies_237 rfl (lv_at hl 4 rfl) ?_
                    refine lv_lload hx hb dX8_copies_238 (lv_at hl 0 rfl) ?_
                    refine kCallVd (wr := [(mI, .inl (cL, 1200, .inr (.inl fI))), (mJ, .inl (cI, 4, .inl (k4i j0 j1 j2 j3))), (mS, .inl (cI, 4, .inl (k4i s0 s1 st s3))), (mD, .inl (cL, 256, .inr (.inl fD)))]) (va_runV (As := [.long vv]) (rest := []) ⟨hx, hb, hml, hown, hts⟩ (q_store l D cI cL cB cZ cT _ m0 mH mI mJ mS mD mX mA mB mW mL aM aC mM mQ oV pL lI sW dP sT aT 7 iW iH aE mN sZ tS tA tW lS fH vv (by omega)) (cwV 1 hts gX8_copies_X8_store rfl rfl rfl (by decide +kernel) ⟨Nat.le_of_ble_eq_true rfl, Nat.le_of_ble_eq_true rfl⟩) (kPreV hG hP hD [0, 1] rfl (by decide) 0 8 rfl rfl rfl) rfl rfl hl.1 rfl (lv_room (Nat.le_of_ble_eq_true rfl)) dX8_copies_240 ⟨Nat.le_of_ble_eq_true rfl, Nat.le_of_ble_eq_true rfl⟩) hA hP hD hS [0, 1] [2, 3, 4, 5] rfl rfl (by decide) (by decide) (fun _ u_r_155 H locs wr_155 hP hD hS => ?_)
                    have hP : va_P D vwCl [(mI, .inl (cL, 1200, .inr (.inl fI))), (mJ, .inl (cI, 4, .inl (k4i j0 j1 j2 j3))), (mS, .inl (cI, 4, .inl (k4i s0 s1 st s3))), (mD, .inl (cL, 256, .inr (.inl fD))), (m0, .inr (8, [.ref mH, .int aM, .long aC, .int mM, .long mQ, .int oV, .int pL, .int lI, .int sW, .int dP, .int sT, .long aT, .int 7, .int iW, .ref mI, .ref mJ, .ref mS, .ref mD, .int iH, .int aE, .int mN, .long sZ, .ref mX, .int tS, .int tA, .int tW, .ref mA, .ref mB, .ref mW, .ref mL, .int lS])), (mH, .inl (cI, 512, .inl u_r_155))] H := hP
                    have hD : va_D A [(mI, .inl (cL, 1200, .inr (.inl fI))), (mJ, .inl (cI, 4, .inl (k4i j0 j1 j2 j3))), (mS, .inl (cI, 4, .inl (k4i s0 s1 st s3))), (mD, .inl (cL, 256, .inr (.inl fD))), (m0, .inr (8, [.ref mH, .int aM, .long aC, .int mM, .long mQ, .int oV, .int pL, .int lI, .int sW, .int dP, .int sT, .long aT, .int 7, .int iW, .ref mI, .ref mJ, .ref mS, .ref mD, .int iH, .int aE, .int mN, .long sZ, .ref mX, .int tS, .int tA, .int tW, .ref mA, .ref mB, .ref mW, .ref mL, .int lS])), (mH, .inl (cI, 512, .inl u_r_155))] := hD
                    try dsimp only at wr_155
                    try simp only [Int32.reduceToInt, Int64.reduceToInt] at wr_155
                    refine lv_goto (tgt := 269) hx hb dX8_copies_243 (by decide) ?_
                    refine lv_iconst (v := 0) hx hb dX8_copies_269 (by decide) ?_
                    refine kIret (u := (pL, dP, 7, iW, u_r_155, fD, fI, j0, j1, j2, j3, s0, s1, st, s3)) hx hb hr rfl hlocks hS dX8_copies_270 ?_ (hP.sub [4, 5, 0, 1, 2, 3] rfl) (hD.sub [4, 5, 0, 1, 2, 3] (by decide) rfl)
                    try dsimp only
                    repeat' (with_reducible apply And.intro)
                    all_goals first | with_reducible assumption | ((try simp only [jT_, jP_, jD_, jC_, jB_, jW_, Int32.reduceToInt, Int64.reduceToInt, true_or, or_true, true_and, and_true]) <;> omega)
                refine lv_iload_n hx hb dX8_copies_165 rfl (lv_at hl 0 rfl) ?_
                refine lv_i2l hx hb dX8_copies_166 rfl ?_
                refine lv_lconst (v := 0) hx hb dX8_copies_167 (by decide) ?_
                refine lv_aload_n hx hb dX8_copies_168 rfl (lv_at hl 3 rfl) ?_
                refine va_get (D := D) (ci := 8) (v := .ref mJ) (C := RX8) (T := TX8) (N := 31) hx hb hts iX8_copies_X8 hown hK hP 0 rfl rfl 15 (by decide) (hts (.fieldLink RX8 17 "TapeCalculatorModel" "items" "[I") (List.mem_of_getElem? (i := 6) rfl)) (fun _ h9 => h9) rfl dX8_copies_169 ?_
                refine lv_iload_n hx hb dX8_copies_172 rfl (lv_at hl 1 rfl) ?_
                refine va_iald hx hb hK hP 3 0 rfl rfl (vp_in_iff.mpr (by decide)) dX8_copies_173 ?_
                refine lv_topi (fun x_156 ex_156 => ?_)
                obtain rfl : j2 = x_156 := ex_156.symm
                refine lv_iconst (v := 1) hx hb dX8_copies_174 (by decide) ?_
                refine lv_isub hx hb dX8_copies_175 ?_
                refine lv_i2l hx hb dX8_copies_176 rfl ?_
                refine kCallI (wr := [(m0, .inr (8, [.ref mH, .int aM, .long aC, .int mM, .long mQ, .int oV, .int pL, .int lI, .int sW, .int dP, .int sT, .long aT, .int 7, .int iW, .ref mI, .ref mJ, .ref mS, .ref mD, .int iH, .int aE, .int mN, .long sZ, .ref mX, .int tS, .int tA, .int tW, .ref mA, .ref mB, .ref mW, .ref mL, .int lS])), (mH, .inl (cI, 512, .inl fH)), (mI, .inl (cL, 1200, .inr (.inl fI))), (mJ, .inl (cI, 4, .inl (k4i j0 j1 j2 j3))), (mS, .inl (cI, 4, .inl (k4i s0 s1 s2 s3))), (mD, .inl (cL, 256, .inr (.inl fD)))]) (va_runS (As := [.long x_150.toInt64, .long 0, .long (j2 - 1).toInt64]) (rest := []) ⟨hx, hb, hml, hown, hts⟩ (q_in l D cI cL cB cZ cT _ (x_150.toInt64) 0 (j2 - 1).toInt64) (va_cwS 3 hts gX8_copies_X8_in rfl rfl rfl (by decide +kernel) ⟨Nat.le_of_ble_eq_true rfl, Nat.le_of_ble_eq_true rfl⟩) (kPreS hG hP hD [] rfl (by decide)) rfl rfl hl.1 rfl (lv_room (Nat.le_of_ble_eq_true rfl)) dX8_copies_177 ⟨Nat.le_of_ble_eq_true rfl, Nat.le_of_ble_eq_true rfl⟩) hA hP hD hS [] [0, 1, 2, 3, 4, 5] rfl rfl (by decide) (by decide) (fun r_157 u_r_157 H locs wr_157 hP hD hS => ?_)
                have hP : va_P D vwCl [(m0, .inr (8, [.ref mH, .int aM, .long aC, .int mM, .long mQ, .int oV, .int pL, .int lI, .int sW, .int dP, .int sT, .long aT, .int 7, .int iW, .ref mI, .ref mJ, .ref mS, .ref mD, .int iH, .int aE, .int mN, .long sZ, .ref mX, .int tS, .int tA, .int tW, .ref mA, .ref mB, .ref mW, .ref mL, .int lS])), (mH, .inl (cI, 512, .inl fH)), (mI, .inl (cL, 1200, .inr (.inl fI))), (mJ, .inl (cI, 4, .inl (k4i j0 j1 j2 j3))), (mS, .inl (cI, 4, .inl (k4i s0 s1 s2 s3))), (mD, .inl (cL, 256, .inr (.inl fD)))] H := hP
                have hD : va_D A [(m0, .inr (8, [.ref mH, .int aM, .long aC, .int mM, .long mQ, .int oV, .int pL, .int lI, .int sW, .int dP, .int sT, .long aT, .int 7, .int iW, .ref mI, .ref mJ, .ref mS, .ref mD, .int iH, .int aE, .int mN, .long sZ, .ref mX, .int tS, .int tA, .int tW, .ref mA, .ref mB, .ref mW, .ref mL, .int lS])), (mH, .inl (cI, 512, .inl fH)), (mI, .inl (cL, 1200, .inr (.inl fI))), (mJ, .inl (cI, 4, .inl (k4i j0 j1 j2 j3))), (mS, .inl (cI, 4, .inl (k4i s0 s1 s2 s3))), (mD, .inl (cL, 256, .inr (.inl fD)))] := hD
                try dsimp only at wr_157
                subst wr_157
                refine lv_if_eq (tgt := 198) hx hb dX8_copies_180 (by decide) (fun c_180_157 => ?_) (fun c_180_157 => ?_)
                · have t_180_157 := c_180_157
                  try simp only [kb_eq0, kb_ne0, lg_cmp_lt, lg_cmp_le, lg_cmp_gt, lg_cmp_ge, lg_cmp_eq] at t_180_157
                  try simp only [Int32.lt_iff_toInt_lt, Int32.le_iff_toInt_le, ← Int32.toInt_inj, Int64.lt_iff_toInt_lt, Int64.le_iff_toInt_le, ← Int64.toInt_inj, Int32.toInt_toInt64, Int32.reduceToInt, Int64.reduceToInt] at t_180_157
                  refine lv_ldc2 (v := (-9)) hx hb hown (hts (.constantLong RX8 107 (-9)) (List.mem_of_getElem? (i := 8) rfl)) dX8_copies_198 ?_
                  refine lv_lstore (lv' := [(4, .long (-9)), (3, .int x_150), (2, .int 2), (1, .int 1), (0, .ref m0)]) hx hb dX8_copies_201 hl (by decide) rfl (fun ls hl => ?_)
                  refine lv_lload hx hb dX8_copies_203 (lv_at hl 0 rfl) ?_
                  refine lv_ldc2 (v := (-9)) hx hb hown (hts (.constantLong RX8 107 (-9)) (List.mem_of_getElem? (i := 8) rfl)) dX8_copies_205 ?_
                  refine W.lcmp hx hb dX8_copies_208 ?_
                  refine lv_topi (fun x_159 ex_159 => ?_)
                  obtain rfl : x_159 = 0 := ex_159.trans (by decide)
                  refine lv_if_eq (tgt := 230) hx hb dX8_copies_209 (by decide) (fun c_209_159 => ?_) (fun c_209_159 => ?_)
                  · have t_209_159 := c_209_159
                    try simp only [kb_eq0, kb_ne0, lg_cmp_lt, lg_cmp_le, lg_cmp_gt, lg_cmp_ge, lg_cmp_eq] at t_209_159
                    try simp only [Int32.lt_iff_toInt_lt, Int32.le_iff_toInt_le, ← Int32.toInt_inj, Int64.lt_iff_toInt_lt, Int64.le_iff_toInt_le, ← Int64.toInt_inj, Int32.toInt_toInt64, Int32.reduceToInt, Int64.reduceToInt] at t_209_159
                    exact J230 (-9) s2 (by first | with_reducible assumption | ((try simp only [jT_, jP_, jD_, jC_, jB_, jW_, Int32.reduceToInt, Int64.reduceToInt, true_or, or_true, true_and, and_true]) <;> omega)) _ _ (hP.sub [0, 1, 2, 3, 4, 5] rfl) (hD.sub [0, 1, 2, 3, 4, 5] (by decide) rfl) hS ls (lv_sub hl [0, 1, 2, 3, 4] rfl)
                  · exact absurd (by decide) c_209_159
                · have t_180_157 := c_180_157
                  try simp only [kb_eq0, kb_ne0, lg_cmp_lt, lg_cmp_le, lg_cmp_gt, lg_cmp_ge, lg_cmp_eq] at t_180_157
                  try simp only [Int32.lt_iff_toInt_lt, Int32.le_iff_toInt_le, ← Int32.toInt_inj, Int64.lt_iff_toInt_lt, Int64.le_iff_toInt_le, ← Int64.toInt_inj, Int32.toInt_toInt64, Int32.reduceToInt, Int64.reduceToInt] at t_180_157
                  refine lv_aload_n hx hb dX8_copies_183 rfl (lv_at hl 3 rfl) ?_
                  refine va_get (D := D) (ci := 8) (v := .ref mI) (C := RX8) (T := TX8) (N := 31) hx hb hts iX8_copies_X8 hown hK hP 0 rfl rfl 14 (by decide) (hts (.fieldLink RX8 13 "TapeCalculatorModel" "item" "[J") (List.mem_of_getElem? (i := 7) rfl)) (fun _ h9 => h9) rfl dX8_copies_184 ?_
                  refine lv_sipush (v := 300) hx hb dX8_copies_187 (by decide) ?_
                  refine lv_iload_n hx hb dX8_copies_190 rfl (lv_at hl 1 rfl) ?_
                  refine lv_imul hx hb dX8_copies_191 ?_
                  refine lv_topi (fun x_161 ex_161 => ?_)
                  obtain rfl : x_161 = 600 := ex_161.trans (by decide)
                  refine lv_iload_n hx hb dX8_copies_192 rfl (lv_at hl 0 rfl) ?_
                  refine lv_iadd hx hb dX8_copies_193 ?_
                  refine va_lald hx hb hK hP 2 1 rfl rfl (vp_in_iff.mpr (by have hx9 := k_addg (a := 600) (b := x_150) (by decide) (by omega); simp only [Int32.reduceToInt] at hx9; omega)) dX8_copies_194 ?_
                  refine lv_goto (tgt := 201) hx hb dX8_copies_195 (by decide) ?_
                  refine lv_topl (fun x_162 ex_162 => ?_)
                  refine lv_lstore (lv' := [(4, .long x_162), (3, .int x_150), (2, .int 2), (1, .int 1), (0, .ref m0)]) hx hb dX8_copies_201 hl (by decide) rfl (fun ls hl => ?_)
                  refine lv_lload hx hb dX8_copies_203 (lv_at hl 0 rfl) ?_
                  refine lv_ldc2 (v := (-9)) hx hb hown (hts (.constantLong RX8 107 (-9)) (List.mem_of_getElem? (i := 8) rfl)) dX8_copies_205 ?_
                  refine W.lcmp hx hb dX8_copies_208 ?_
                  refine lv_if_eq (tgt := 230) hx hb dX8_copies_209 (by decide) (fun c_209_162 => ?_) (fun c_209_162 => ?_)
                  · have t_209_162 := c_209_162
                    try simp only [kb_eq0, kb_ne0, lg_cmp_lt, lg_cmp_le, lg_cmp_gt, lg_cmp_ge, lg_cmp_eq] at t_209_162
                    try simp only [Int32.lt_iff_toInt_lt, Int32.le_iff_toInt_le, ← Int32.toInt_inj, Int64.lt_iff_toInt_lt, Int64.le_iff_toInt_le, ← Int64.toInt_inj, Int32.toInt_toInt64, Int32.reduceToInt, Int64.reduceToInt] at t_209_162
                    exact J230 x_162 s2 (by first | with_reducible assumption | ((try simp only [jT_, jP_, jD_, jC_, jB_, jW_, Int32.reduceToInt, Int64.reduceToInt, true_or, or_true, true_and, and_true]) <;> omega)) _ _ (hP.sub [0, 1, 2, 3, 4, 5] rfl) (hD.sub [0, 1, 2, 3, 4, 5] (by decide) rfl) hS ls (lv_sub hl [0, 1, 2, 3, 4] rfl)
                  · have t_209_162 := c_209_162
                    try simp only [kb_eq0, kb_ne0, lg_cmp_lt, lg_cmp_le, lg_cmp_gt, lg_cmp_ge, lg_cmp_eq] at t_209_162
                    try simp only [Int32.lt_iff_toInt_lt, Int32.le_iff_toInt_le, ← Int32.toInt_inj, Int64.lt_iff_toInt_lt, Int64.le_iff_toInt_le, ← Int64.toInt_inj, Int32.toInt_toInt64, Int32.reduceToInt, Int64.reduceToInt] at t_209_162
                    refine lv_aload_n hx hb dX8_copies_212 rfl (lv_at hl 4 rfl) ?_
                    refine va_get (D := D) (ci := 8) (v := .ref mS) (C := RX8) (T := TX8) (N := 31) hx hb hts iX8_copies_X8 hown hK hP 0 rfl rfl 16 (by decide) (hts (.fieldLink RX8 20 "TapeCalculatorModel" "stands" "[I") (List.mem_of_getElem? (i := 5) rfl)) (fun _ h9 => h9) rfl dX8_copies_213 ?_
                    refine lv_iload_n hx hb dX8_copies_216 rfl (lv_at hl 2 rfl) ?_
                    refine lv_dup2_11 hx hb dX8_copies_217 rfl rfl ?_
                    refine va_iald hx hb hK hP 4 0 rfl rfl (vp_in_iff.mpr (by decide)) dX8_copies_218 ?_
                    refine lv_topi (fun x_164 ex_164 => ?_)
                    obtain rfl : s2 = x_164 := ex_164.symm
                    refine lv_iload_n hx hb dX8_copies_219 rfl (lv_at hl 3 rfl) ?_
                    refine lv_if_eq (tgt := 227) hx hb dX8_copies_220 (by decide) (fun c_220_164 => ?_) (fun c_220_164 => ?_)
                    · exact absurd c_220_164 (by decide)
                    · have t_220_164 := c_220_164
                      try simp only [kb_eq0, kb_ne0, lg_cmp_lt, lg_cmp_le, lg_cmp_gt, lg_cmp_ge, lg_cmp_eq] at t_220_164
                      try simp only [Int32.lt_iff_toInt_lt, Int32.le_iff_toInt_le, ← Int32.toInt_inj, Int64.lt_iff_toInt_lt, Int64.le_iff_toInt_le, ← Int64.toInt_inj, Int32.toInt_toInt64, Int32.reduceToInt, Int64.reduceToInt] at t_220_164
                      refine lv_iconst (v := (-1)) hx hb dX8_copies_223 (by decide) ?_
                      refine lv_goto (tgt := 228) hx hb dX8_copies_224 (by decide) ?_
                      refine lv_iadd hx hb dX8_copies_228 ?_
                      refine va_iast hx hb hK hP hD hS 4 0 rfl rfl (vp_in_iff.mpr (by decide)) dX8_copies_229 (fun H locs hP hD hS => ?_)
                      rw [k4i_2] at hP hD
                      have hP : va_P D vwCl [(m0, .inr (8, [.ref mH, .int aM, .long aC, .int mM, .long mQ, .int oV, .int pL, .int lI, .int sW, .int dP, .int sT, .long aT, .int 7, .int iW, .ref mI, .ref mJ, .ref mS, .ref mD, .int iH, .int aE, .int mN, .long sZ, .ref mX, .int tS, .int tA, .int tW, .ref mA, .ref mB, .ref mW, .ref mL, .int lS])), (mH, .inl (cI, 512, .inl fH)), (mI, .inl (cL, 1200, .inr (.inl fI))), (mJ, .inl (cI, 4, .inl (k4i j0 j1 j2 j3))), (mS, .inl (cI, 4, .inl (k4i s0 s1 (s2 + (-1)) s3))), (mD, .inl (cL, 256, .inr (.inl fD)))] H := hP
                      have hD : va_D A [(m0, .inr (8, [.ref mH, .int aM, .long aC, .int mM, .long mQ, .int oV, .int pL, .int lI, .int sW, .int dP, .int sT, .long aT, .int 7, .int iW, .ref mI, .ref mJ, .ref mS, .ref mD, .int iH, .int aE, .int mN, .long sZ, .ref mX, .int tS, .int tA, .int tW, .ref mA, .ref mB, .ref mW, .ref mL, .int lS])), (mH, .inl (cI, 512, .inl fH)), (mI, .inl (cL, 1200, .inr (.inl fI))), (mJ, .inl (cI, 4, .inl (k4i j0 j1 j2 j3))), (mS, .inl (cI, 4, .inl (k4i s0 s1 (s2 + (-1)) s3))), (mD, .inl (cL, 256, .inr (.inl fD)))] := hD
                      exact J230 x_162 (s2 + (-1)) (by first | with_reducible assumption | ((try simp only [jT_, jP_, jD_, jC_, jB_, jW_, Int32.reduceToInt, Int64.reduceToInt, true_or, or_true, true_and, and_true]) <;> omega)) _ _ (hP.sub [0, 1, 2, 3, 4, 5] rfl) (hD.sub [0, 1, 2, 3, 4, 5] (by decide) rfl) hS ls (lv_sub hl [0, 1, 2, 3, 4] rfl)
        · exact absurd (by decide) c_79_143
      · exact absurd (by decide) c_16_142
    · exact absurd c_4_141 (by decide)
  · have hiw1 : iW.toInt = 0 := by simp only [jW_, Int32.reduceToInt] at hiw; omega
    have hu3 : 0 ≤ s3.toInt ∧ s3.toInt ≤ j3.toInt ∧ j3.toInt ≤ 300 := ht3
    have hs0 := k_sub (a := j3) (b := 1) (by omega) (by decide)
    simp only [Int32.reduceToInt] at hs0
    have hs1 := k_sub (a := s3) (b := 1) (by omega) (by decide)
    simp only [Int32.reduceToInt] at hs1
    have hs2 := k_addg (a := s3) (b := 1) (by omega) (by decide)
    have hs3 := k_addg (a := s3) (b := (-1)) (by omega) (by decide)
    simp only [Int32.reduceToInt, show (-1 : Int32).toInt = -1 from rfl] at hs2 hs3
    refine lv_aload_n hx hb dX8_copies_0 rfl (lv_at hl 0 rfl) ?_
    refine va_get (D := D) (ci := 8) (v := .int 8) (C := RX8) (T := TX8) (N := 31) hx hb hts iX8_copies_X8 hown hK hP 0 rfl rfl 12 (by decide) (hts (.fieldLink RX8 43 "TapeCalculatorModel" "chosen" "I") (List.mem_of_getElem? (i := 1) rfl)) (fun _ h9 => h9) rfl dX8_copies_1 ?_
    refine lv_if_ne (tgt := 10) hx hb dX8_copies_4 (by decide) (fun c_4_165 => ?_) (fun c_4_165 => ?_)
    · have t_4_165 := c_4_165
      try simp only [kb_eq0, kb_ne0, lg_cmp_lt, lg_cmp_le, lg_cmp_gt, lg_cmp_ge, lg_cmp_eq] at t_4_165
      try simp only [Int32.lt_iff_toInt_lt, Int32.le_iff_toInt_le, ← Int32.toInt_inj, Int64.lt_iff_toInt_lt, Int64.le_iff_toInt_le, ← Int64.toInt_inj, Int32.toInt_toInt64, Int32.reduceToInt, Int64.reduceToInt] at t_4_165
      refine lv_aload_n hx hb dX8_copies_10 rfl (lv_at hl 0 rfl) ?_
      refine va_get (D := D) (ci := 8) (v := .int 8) (C := RX8) (T := TX8) (N := 31) hx hb hts iX8_copies_X8 hown hK hP 0 rfl rfl 12 (by decide) (hts (.fieldLink RX8 43 "TapeCalculatorModel" "chosen" "I") (List.mem_of_getElem? (i := 1) rfl)) (fun _ h9 => h9) rfl dX8_copies_11 ?_
      refine lv_bipush (v := 12) hx hb dX8_copies_14 (by decide) ?_
      refine lv_icmp_le (tgt := 73) hx hb dX8_copies_16 (by decide) (fun c_16_166 => ?_) (fun c_16_166 => ?_)
      · have t_16_166 := c_16_166
        try simp only [kb_eq0, kb_ne0, lg_cmp_lt, lg_cmp_le, lg_cmp_gt, lg_cmp_ge, lg_cmp_eq] at t_16_166
        try simp only [Int32.lt_iff_toInt_lt, Int32.le_iff_toInt_le, ← Int32.toInt_inj, Int64.lt_iff_toInt_lt, Int64.le_iff_toInt_le, ← Int64.toInt_inj, Int32.toInt_toInt64, Int32.reduceToInt, Int64.reduceToInt] at t_16_166
        refine lv_aload_n hx hb dX8_copies_73 rfl (lv_at hl 0 rfl) ?_
        refine va_get (D := D) (ci := 8) (v := .int 8) (C := RX8) (T := TX8) (N := 31) hx hb hts iX8_copies_X8 hown hK hP 0 rfl rfl 12 (by decide) (hts (.fieldLink RX8 43 "TapeCalculatorModel" "chosen" "I") (List.mem_of_getElem? (i := 1) rfl)) (fun _ h9 => h9) rfl dX8_copies_74 ?_
        refine lv_bipush (v := 8) hx hb dX8_copies_77 (by decide) ?_
        refine lv_icmp_le (tgt := 109) hx hb dX8_copies_79 (by decide) (fun c_79_167 => ?_) (fun c_79_167 => ?_)
        · have t_79_167 := c_79_167
          try simp only [kb_eq0, kb_ne0, lg_cmp_lt, lg_cmp_le, lg_cmp_gt, lg_cmp_ge, lg_cmp_eq] at t_79_167
          try simp only [Int32.lt_iff_toInt_lt, Int32.le_iff_toInt_le, ← Int32.toInt_inj, Int64.lt_iff_toInt_lt, Int64.le_iff_toInt_le, ← Int64.toInt_inj, Int32.toInt_toInt64, Int32.reduceToInt, Int64.reduceToInt] at t_79_167
          refine lv_aload_n hx hb dX8_copies_109 rfl (lv_at hl 0 rfl) ?_
          refine va_get (D := D) (ci := 8) (v := .int 8) (C := RX8) (T := TX8) (N := 31) hx hb hts iX8_copies_X8 hown hK hP 0 rfl rfl 12 (by decide) (hts (.fieldLink RX8 43 "TapeCalculatorModel" "chosen" "I") (List.mem_of_getElem? (i := 1) rfl)) (fun _ h9 => h9) rfl dX8_copies_110 ?_
          refine lv_iconst (v := 4) hx hb dX8_copies_113 (by decide) ?_
          refine lv_icmp_le (tgt := 121) hx hb dX8_copies_114 (by decide) (fun c_114_168 => ?_) (fun c_114_168 => ?_)
          · exact absurd c_114_168 (by decide)
          · have t_114_168 := c_114_168
            try simp only [kb_eq0, kb_ne0, lg_cmp_lt, lg_cmp_le, lg_cmp_gt, lg_cmp_ge, lg_cmp_eq] at t_114_168
            try simp only [Int32.lt_iff_toInt_lt, Int32.le_iff_toInt_le, ← Int32.toInt_inj, Int64.lt_iff_toInt_lt, Int64.le_iff_toInt_le, ← Int64.toInt_inj, Int32.toInt_toInt64, Int32.reduceToInt, Int64.reduceToInt] at t_114_168
            refine lv_iconst (v := 1) hx hb dX8_copies_117 (by decide) ?_
            refine lv_goto (tgt := 122) hx hb dX8_copies_118 (by decide) ?_
            refine lv_istore_n (lv' := [(1, .int 1), (0, .ref m0)]) hx hb dX8_copies_122 rfl hl (by decide) rfl (fun ls hl => ?_)
            refine lv_iload_n hx hb dX8_copies_123 rfl (lv_at hl 0 rfl) ?_
            refine lv_if_eq (tgt := 136) hx hb dX8_copies_124 (by decide) (fun c_124_169 => ?_) (fun c_124_169 => ?_)
            · exact absurd c_124_169 (by decide)
            · have t_124_169 := c_124_169
              try simp only [kb_eq0, kb_ne0, lg_cmp_lt, lg_cmp_le, lg_cmp_gt, lg_cmp_ge, lg_cmp_eq] at t_124_169
              try simp only [Int32.lt_iff_toInt_lt, Int32.le_iff_toInt_le, ← Int32.toInt_inj, Int64.lt_iff_toInt_lt, Int64.le_iff_toInt_le, ← Int64.toInt_inj, Int32.toInt_toInt64, Int32.reduceToInt, Int64.reduceToInt] at t_124_169
              refine lv_aload_n hx hb dX8_copies_127 rfl (lv_at hl 1 rfl) ?_
              refine va_get (D := D) (ci := 8) (v := .int 8) (C := RX8) (T := TX8) (N := 31) hx hb hts iX8_copies_X8 hown hK hP 0 rfl rfl 12 (by decide) (hts (.fieldLink RX8 43 "TapeCalculatorModel" "chosen" "I") (List.mem_of_getElem? (i := 1) rfl)) (fun _ h9 => h9) rfl dX8_copies_128 ?_
              refine lv_iconst (v := 5) hx hb dX8_copies_131 (by decide) ?_
              refine lv_isub hx hb dX8_copies_132 ?_
              refine lv_topi (fun x_171 ex_171 => ?_)
              obtain rfl : x_171 = 3 := ex_171.trans (by decide)
              refine lv_goto (tgt := 142) hx hb dX8_copies_133 (by decide) ?_
              refine lv_istore_n (lv' := [(2, .int 3), (1, .int 1), (0, .ref m0)]) hx hb dX8_copies_142 rfl hl (by decide) rfl (fun ls hl => ?_)
              refine lv_iload_n hx hb dX8_copies_143 rfl (lv_at hl 1 rfl) ?_
              refine lv_if_eq (tgt := 158) hx hb dX8_copies_144 (by decide) (fun c_144_171 => ?_) (fun c_144_171 => ?_)
              · exact absurd c_144_171 (by decide)
              · have t_144_171 := c_144_171
                try simp only [kb_eq0, kb_ne0, lg_cmp_lt, lg_cmp_le, lg_cmp_gt, lg_cmp_ge, lg_cmp_eq] at t_144_171
                try simp only [Int32.lt_iff_toInt_lt, Int32.le_iff_toInt_le, ← Int32.toInt_inj, Int64.lt_iff_toInt_lt, Int64.le_iff_toInt_le, ← Int64.toInt_inj, Int32.toInt_toInt64, Int32.reduceToInt, Int64.reduceToInt] at t_144_171
                refine lv_aload_n hx hb dX8_copies_147 rfl (lv_at hl 2 rfl) ?_
                refine va_get (D := D) (ci := 8) (v := .ref mS) (C := RX8) (T := TX8) (N := 31) hx hb hts iX8_copies_X8 hown hK hP 0 rfl rfl 16 (by decide) (hts (.fieldLink RX8 20 "TapeCalculatorModel" "stands" "[I") (List.mem_of_getElem? (i := 5) rfl)) (fun _ h9 => h9) rfl dX8_copies_148 ?_
                refine lv_iload_n hx hb dX8_copies_151 rfl (lv_at hl 0 rfl) ?_
                refine va_iald hx hb hK hP 4 0 rfl rfl (vp_in_iff.mpr (by decide)) dX8_copies_152 ?_
                refine lv_topi (fun x_173 ex_173 => ?_)
                obtain rfl : s3 = x_173 := ex_173.symm
                refine lv_iconst (v := 1) hx hb dX8_copies_153 (by decide) ?_
                refine lv_isub hx hb dX8_copies_154 ?_
                refine lv_goto (tgt := 164) hx hb dX8_copies_155 (by decide) ?_
                refine lv_topi (fun x_174 ex_174 => ?_)
                refine lv_istore_n (lv' := [(3, .int x_174), (2, .int 3), (1, .int 1), (0, .ref m0)]) hx hb dX8_copies_164 rfl hl (by decide) rfl (fun ls hl => ?_)
                rw [← ex_174] at hs1
                have J230 : ∀ (vv : Int64) (st : Int32), jT_ st j3 → ∀ (H : Heap) (locs : List Loc), va_P D vwCl [(m0, .inr (8, [.ref mH, .int aM, .long aC, .int mM, .long mQ, .int oV, .int pL, .int lI, .int sW, .int dP, .int sT, .long aT, .int 8, .int iW, .ref mI, .ref mJ, .ref mS, .ref mD, .int iH, .int aE, .int mN, .long sZ, .ref mX, .int tS, .int tA, .int tW, .ref mA, .ref mB, .ref mW, .ref mL, .int lS])), (mH, .inl (cI, 512, .inl fH)), (mI, .inl (cL, 1200, .inr (.inl fI))), (mJ, .inl (cI, 4, .inl (k4i j0 j1 j2 j3))), (mS, .inl (cI, 4, .inl (k4i s0 s1 s2 st))), (mD, .inl (cL, 256, .inr (.inl fD)))] H → va_D A [(m0, .inr (8, [.ref mH, .int aM, .long aC, .int mM, .long mQ, .int oV, .int pL, .int lI, .int sW, .int dP, .int sT, .long aT, .int 8, .int iW, .ref mI, .ref mJ, .ref mS, .ref mD, .int iH, .int aE, .int mN, .long sZ, .ref mX, .int tS, .int tA, .int tW, .ref mA, .ref mB, .ref mW, .ref mL, .int lS])), (mH, .inl (cI, 512, .inl fH)), (mI, .inl (cL, 1200, .inr (.inl fI))), (mJ, .inl (cI, 4, .inl (k4i j0 j1 j2 j3))), (mS, .inl (cI, 4, .inl (k4i s0 s1 s2 st))), (mD, .inl (cL, 256, .inr (.inl fD)))] → va_S A s.heap H locs → ∀ ls : Array Slot, lv_has ls 6 [(4, .long vv), (3, .int x_174), (2, .int 3), (1, .int 1), (0, .ref m0)] → W p l e ({ frames := 2, cells := 0, slots := 0, locals := 45 }) s m args below meth c H locs 0 0 (MQ below (kQ (S := (Int32 × Int32 × Int32 × Int32 × (Nat → Int32) × (Nat → Int64) × (Nat → Int64) × Int32 × Int32 × Int32 × Int32 × Int32 × Int32 × Int32 × Int32)) eI (fun r u => (0 ≤ r.toInt ∧ r.toInt ≤ 6) ∧ jP_ (u.1) ∧ jD_ (u.2.1) ∧ jC_ (u.2.2.1) ∧ jW_ (u.2.2.2.1) (u.2.2.1) ∧ jT_ (u.2.2.2.2.2.2.2.2.2.2.2.1) (u.2.2.2.2.2.2.2.1) ∧ jT_ (u.2.2.2.2.2.2.2.2.2.2.2.2.1) (u.2.2.2.2.2.2.2.2.1) ∧ jT_ (u.2.2.2.2.2.2.2.2.2.2.2.2.2.1) (u.2.2.2.2.2.2.2.2.2.1) ∧ jT_ (u.2.2.2.2.2.2.2.2.2.2.2.2.2.2) (u.2.2.2.2.2.2.2.2.2.2.1)) D (fun u => [(m0, .inr (8, [.ref mH, .int aM, .long aC, .int mM, .long mQ, .int oV, .int u.1, .int lI, .int sW, .int u.2.1, .int sT, .long aT, .int u.2.2.1, .int u.2.2.2.1, .ref mI, .ref mJ, .ref mS, .ref mD, .int iH, .int aE, .int mN, .long sZ, .ref mX, .int tS, .int tA, .int tW, .ref mA, .ref mB, .ref mW, .ref mL, .int lS])), (mH, .inl (cI, 512, .inl u.2.2.2.2.1)), (mI, .inl (cL, 1200, .inr (.inl u.2.2.2.2.2.2.1))), (mJ, .inl (cI, 4, .inl (k4i u.2.2.2.2.2.2.2.1 u.2.2.2.2.2.2.2.2.1 u.2.2.2.2.2.2.2.2.2.1 u.2.2.2.2.2.2.2.2.2.2.1))), (mS, .inl (cI, 4, .inl (k4i u.2.2.2.2.2.2.2.2.2.2.2.1 u.2.2.2.2.2.2.2.2.2.2.2.2.1 u.2.2.2.2.2.2.2.2.2.2.2.2.2.1 u.2.2.2.2.2.2.2.2.2.2.2.2.2.2))), (mD, .inl (cL, 256, .inr (.inl u.2.2.2.2.2.1)))]) A) args s 0 0 A) (F0 m 230 ls []) := by
                  intro vv st hst H locs hP hD hS ls hl
                  refine lv_lload hx hb dX8_copies_230 (lv_at hl 0 rfl) ?_
                  refine lv_lconst (v := 0) hx hb dX8_copies_232 (by decide) ?_
                  refine W.lcmp hx hb dX8_copies_233 ?_
                  refine lv_if_lt (tgt := 246) hx hb dX8_copies_234 (by decide) (fun c_234_174 => ?_) (fun c_234_174 => ?_)
                  · have t_234_174 := c_234_174
                    try simp only [kb_eq0, kb_ne0, lg_cmp_lt, lg_cmp_le, lg_cmp_gt, lg_cmp_ge, lg_cmp_eq] at t_234_174
                    try simp only [Int32.lt_iff_toInt_lt, Int32.le_iff_toInt_le, ← Int32.toInt_inj, Int64.lt_iff_toInt_lt, Int64.le_iff_toInt_le, ← Int64.toInt_inj, Int32.toInt_toInt64, Int32.reduceToInt, Int64.reduceToInt] at t_234_174
                    refine lv_aload_n hx hb dX8_copies_246 rfl (lv_at hl 4 rfl) ?_
                    refine lv_iconst (v := 0) hx hb dX8_copies_247 (by decide) ?_
                    refine va_put (D := D) (ci := 8) (v := .int 0) (ty := .int) (C := RX8) (T := TX8) (N := 31) hx hb hts iX8_copies_X8 tyX8 tyX8_ok nmX8 hown hK hP hD hS 0 rfl rfl 12 (by decide) (hts (.fieldLink RX8 43 "TapeCalculatorModel" "chosen" "I") (List.mem_of_getElem? (i := 1) rfl)) (fun _ h9 => h9) rfl (by decide +kernel) rfl rfl (Nat.le_of_ble_eq_true rfl) dX8_copies_248 (fun H locs hP hD hS => ?_)
                    have hP : va_P D vwCl [(m0, .inr (8, [.ref mH, .int aM, .long aC, .int mM, .long mQ, .int oV, .int pL, .int lI, .int sW, .int dP, .int sT, .long aT, .int 0, .int iW, .ref mI, .ref mJ, .ref mS, .ref mD, .int iH, .int aE, .int mN, .long sZ, .ref mX, .int tS, .int tA, .int tW, .ref mA, .ref mB, .ref mW, .ref mL, .int lS])), (mH, .inl (cI, 512, .inl fH)), (mI, .inl (cL, 1200, .inr (.inl fI))), (mJ, .inl (cI, 4, .inl (k4i j0 j1 j2 j3))), (mS, .inl (cI, 4, .inl (k4i s0 s1 s2 st))), (mD, .inl (cL, 256, .inr (.inl fD)))] H := hP
                    have hD : va_D A [(m0, .inr (8, [.ref mH, .int aM, .long aC, .int mM, .long mQ, .int oV, .int pL, .int lI, .int sW, .int dP, .int sT, .long aT, .int 0, .int iW, .ref mI, .ref mJ, .ref mS, .ref mD, .int iH, .int aE, .int mN, .long sZ, .ref mX, .int tS, .int tA, .int tW, .ref mA, .ref mB, .ref mW, .ref mL, .int lS])), (mH, .inl (cI, 512, .inl fH)), (mI, .inl (cL, 1200, .inr (.inl fI))), (mJ, .inl (cI, 4, .inl (k4i j0 j1 j2 j3))), (mS, .inl (cI, 4, .inl (k4i s0 s1 s2 st))), (mD, .inl (cL, 256, .inr (.inl fD)))] := hD
                    refine lv_aload_n hx hb dX8_copies_251 rfl (lv_at hl 4 rfl) ?_
                    refine lv_lload hx hb dX8_copies_252 (lv_at hl 0 rfl) ?_
                    refine lv_ldc2 (v := (-2)) hx hb hown (hts (.constantLong RX8 111 (-2)) (List.mem_of_getElem? (i := 9) rfl)) dX8_copies_254 ?_
                    refine W.lcmp hx hb dX8_copies_257 ?_
                    refine lv_if_ne (tgt := 265) hx hb dX8_copies_258 (by decide) (fun c_258_175 => ?_) (fun c_258_175 => ?_)
                    · have t_258_175 := c_258_175
                      try simp only [kb_eq0, kb_ne0, lg_cmp_lt, lg_cmp_le, lg_cmp_gt, lg_cmp_ge, lg_cmp_eq] at t_258_175
                      try simp only [Int32.lt_iff_toInt_lt, Int32.le_iff_toInt_le, ← Int32.toInt_inj, Int64.lt_iff_toInt_lt, Int64.le_iff_toInt_le, ← Int64.toInt_inj, Int32.toInt_toInt64, Int32.reduceToInt, Int64.reduceToInt] at t_258_175
                      refine lv_iconst (v := 1) hx hb dX8_copies_265 (by decide) ?_
                      refine kCallVd (wr := [(mH, .inl (cI, 512, .inl fH)), (mI, .inl (cL, 1200, .inr (.inl fI))), (mJ, .inl (cI, 4, .inl (k4i j0 j1 j2 j3))), (mS, .inl (cI, 4, .inl (k4i s0 s1 s2 st))), (mD, .inl (cL, 256, .inr (.inl fD)))]) (va_runV (As := [.int 1]) (rest := []) ⟨hx, hb, hml, hown, hts⟩ (q_go l D cI cL cB cZ cT _ m0 mH mI mJ mS mD mX mA mB mW mL aM aC mM mQ oV pL lI sW dP sT aT 0 iW iH aE mN sZ tS tA tW lS 1) (cwV 1 hts gX8_copies_X8_go rfl rfl rfl (by decide +kernel) ⟨Nat.le_of_ble_eq_true rfl, Nat.le_of_ble_eq_true rfl⟩) (kPreV hG hP hD [0] rfl (by decide) 0 8 rfl rfl rfl) rfl rfl hl.1 rfl (lv_room (Nat.le_of_ble_eq_true rfl)) dX8_copies_266 ⟨Nat.le_of_ble_eq_true rfl, Nat.le_of_ble_eq_true rfl⟩) hA hP hD hS [0] [1, 2, 3, 4, 5] rfl rfl (by decide) (by decide) (fun _ u_r_177 H locs wr_177 hP hD hS => ?_)
                      have hP : va_P D vwCl [(mH, .inl (cI, 512, .inl fH)), (mI, .inl (cL, 1200, .inr (.inl fI))), (mJ, .inl (cI, 4, .inl (k4i j0 j1 j2 j3))), (mS, .inl (cI, 4, .inl (k4i s0 s1 s2 st))), (mD, .inl (cL, 256, .inr (.inl fD))), (m0, .inr (8, [.ref mH, .int aM, .long aC, .int mM, .long mQ, .int oV, .int u_r_177, .int lI, .int sW, .int dP, .int sT, .long aT, .int 0, .int iW, .ref mI, .ref mJ, .ref mS, .ref mD, .int iH, .int aE, .int mN, .long sZ, .ref mX, .int tS, .int tA, .int tW, .ref mA, .ref mB, .ref mW, .ref mL, .int lS]))] H := hP
                      have hD : va_D A [(mH, .inl (cI, 512, .inl fH)), (mI, .inl (cL, 1200, .inr (.inl fI))), (mJ, .inl (cI, 4, .inl (k4i j0 j1 j2 j3))), (mS, .inl (cI, 4, .inl (k4i s0 s1 s2 st))), (mD, .inl (cL, 256, .inr (.inl fD))), (m0, .inr (8, [.ref mH, .int aM, .long aC, .int mM, .long mQ, .int oV, .int u_r_177, .int lI, .int sW, .int dP, .int sT, .long aT, .int 0, .int iW, .ref mI, .ref mJ, .ref mS, .ref mD, .int iH, .int aE, .int mN, .long sZ, .ref mX, .int tS, .int tA, .int tW, .ref mA, .ref mB, .ref mW, .ref mL, .int lS]))] := hD
                      try dsimp only at wr_177
                      try simp only [Int32.reduceToInt, Int64.reduceToInt] at wr_177
                      refine lv_iconst (v := 0) hx hb dX8_copies_269 (by decide) ?_
                      refine kIret (u := (u_r_177, dP, 0, iW, fH, fD, fI, j0, j1, j2, j3, s0, s1, s2, st)) hx hb hr rfl hlocks hS dX8_copies_270 ?_ (hP.sub [5, 0, 1, 2, 3, 4] rfl) (hD.sub [5, 0, 1, 2, 3, 4] (by decide) rfl)
                      try dsimp only
                      repeat' (with_reducible apply And.intro)
                      all_goals first | with_reducible assumption | ((try simp only [jT_, jP_, jD_, jC_, jB_, jW_, Int32.reduceToInt, Int64.reduceToInt, true_or, or_true, true_and, and_true]) <;> omega)
                    · have t_258_175 := c_258_175
                      try simp only [kb_eq0, kb_ne0, lg_cmp_lt, lg_cmp_le, lg_cmp_gt, lg_cmp_ge, lg_cmp_eq] at t_258_175
                      try simp only [Int32.lt_iff_toInt_lt, Int32.le_iff_toInt_le, ← Int32.toInt_inj, Int64.lt_iff_toInt_lt, Int64.le_iff_toInt_le, ← Int64.toInt_inj, Int32.toInt_toInt64, Int32.reduceToInt, Int64.reduceToInt] at t_258_175
                      refine lv_iconst (v := 2) hx hb dX8_copies_261 (by decide) ?_
                      refine lv_goto (tgt := 266) hx hb dX8_copies_262 (by decide) ?_
                      refine kCallVd (wr := [(mH, .inl (cI, 512, .inl fH)), (mI, .inl (cL, 1200, .inr (.inl fI))), (mJ, .inl (cI, 4, .inl (k4i j0 j1 j2 j3))), (mS, .inl (cI, 4, .inl (k4i s0 s1 s2 st))), (mD, .inl (cL, 256, .inr (.inl fD)))]) (va_runV (As := [.int 2]) (rest := []) ⟨hx, hb, hml, hown, hts⟩ (q_go l D cI cL cB cZ cT _ m0 mH mI mJ mS mD mX mA mB mW mL aM aC mM mQ oV pL lI sW dP sT aT 0 iW iH aE mN sZ tS tA tW lS 2) (cwV 1 hts gX8_copies_X8_go rfl rfl rfl (by decide +kernel) ⟨Nat.le_of_ble_eq_true rfl, Nat.le_of_ble_eq_true rfl⟩) (kPreV hG hP hD [0] rfl (by decide) 0 8 rfl rfl rfl) rfl rfl hl.1 rfl (lv_room (Nat.le_of_ble_eq_true rfl)) dX8_copies_266 ⟨Nat.le_of_ble_eq_true rfl, Nat.le_of_ble_eq_true rfl⟩) hA hP hD hS [0] [1, 2, 3, 4, 5] rfl rfl (by decide) (by decide) (fun _ u_r_178 H locs wr_178 hP hD hS => ?_)
                      have hP : va_P D vwCl [(mH, .inl (cI, 512, .inl fH)), (mI, .inl (cL, 1200, .inr (.inl fI))), (mJ, .inl (cI, 4, .inl (k4i j0 j1 j2 j3))), (mS, .inl (cI, 4, .inl (k4i s0 s1 s2 st))), (mD, .inl (cL, 256, .inr (.inl fD))), (m0, .inr (8, [.ref mH, .int aM, .long aC, .int mM, .long mQ, .int oV, .int u_r_178, .int lI, .int sW, .int dP, .int sT, .long aT, .int 0, .int iW, .ref mI, .ref mJ, .ref mS, .ref mD, .int iH, .int aE, .int mN, .long sZ, .ref mX, .int tS, .int tA, .int tW, .ref mA, .ref mB, .ref mW, .ref mL, .int lS]))] H := hP
                      have hD : va_D A [(mH, .inl (cI, 512, .inl fH)), (mI, .inl (cL, 1200, .inr (.inl fI))), (mJ, .inl (cI, 4, .inl (k4i j0 j1 j2 j3))), (mS, .inl (cI, 4, .inl (k4i s0 s1 s2 st))), (mD, .inl (cL, 256, .inr (.inl fD))), (m0, .inr (8, [.ref mH, .int aM, .long aC, .int mM, .long mQ, .int oV, .int u_r_178, .int lI, .int sW, .int dP, .int sT, .long aT, .int 0, .int iW, .ref mI, .ref mJ, .ref mS, .ref mD, .int iH, .int aE, .int mN, .long sZ, .ref mX, .int tS, .int tA, .int tW, .ref mA, .ref mB, .ref mW, .ref mL, .int lS]))] := hD
                      try dsimp only at wr_178
                      try simp only [Int32.reduceToInt, Int64.reduceToInt] at wr_178
                      refine lv_iconst (v := 0) hx hb dX8_copies_269 (by decide) ?_
                      refine kIret (u := (u_r_178, dP, 0, iW, fH, fD, fI, j0, j1, j2, j3, s0, s1, s2, st)) hx hb hr rfl hlocks hS dX8_copies_270 ?_ (hP.sub [5, 0, 1, 2, 3, 4] rfl) (hD.sub [5, 0, 1, 2, 3, 4] (by decide) rfl)
                      try dsimp only
                      repeat' (with_reducible apply And.intro)
                      all_goals first | with_reducible assumption | ((try simp only [jT_, jP_, jD_, jC_, jB_, jW_, Int32.reduceToInt, Int64.reduceToInt, true_or, or_true, true_and, and_true]) <;> omega)
                  · have t_234_174 := c_234_174
                    try simp only [kb_eq0, kb_ne0, lg_cmp_lt, lg_cmp_le, lg_cmp_gt, lg_cmp_ge, lg_cmp_eq] at t_234_174
                    try simp only [Int32.lt_iff_toInt_lt, Int32.le_iff_toInt_le, ← Int32.toInt_inj, Int64.lt_iff_toInt_lt, Int64.le_iff_toInt_le, ← Int64.toInt_inj, Int32.toInt_toInt64, Int32.reduceToInt, Int64.reduceToInt] at t_234_174
                    refine lv_aload_n hx hb dX8_copies_237 rfl (lv_at hl 4 rfl) ?_
                    refine lv_lload hx hb dX8_copies_238 (lv_at hl 0 rfl) ?_
                    refine kCallVd (wr := [(mI, .inl (cL, 1200, .inr (.inl fI))), (mJ, .inl (cI, 4, .inl (k4i j0 j1 j2 j3))), (mS, .inl (cI, 4, .inl (k4i s0 s1 s2 st))), (mD, .inl (cL, 256, .inr (.inl fD)))]) (va_runV (As := [.long vv]) (rest := []) ⟨hx, hb, hml, hown, hts⟩ (q_store l D cI cL cB cZ cT _ m0 mH mI mJ mS mD mX mA mB mW mL aM aC mM mQ oV pL lI sW dP sT aT 8 iW iH aE mN sZ tS tA tW lS fH vv (by omega)) (cwV 1 hts gX8_copies_X8_store rfl rfl rfl (by decide +kernel) ⟨Nat.le_of_ble_eq_true rfl, Nat.le_of_ble_eq_true rfl⟩) (kPreV hG hP hD [0, 1] rfl (by decide) 0 8 rfl rfl rfl) rfl rfl hl.1 rfl (lv_room (Nat.le_of_ble_eq_true rfl)) dX8_copies_240 ⟨Nat.le_of_ble_eq_true rfl, Nat.le_of_ble_eq_true rfl⟩) hA hP hD hS [0, 1] [2, 3, 4, 5] rfl rfl (by decide) (by decide) (fun _ u_r_179 H locs wr_179 hP hD hS => ?_)
                    have hP : va_P D vwCl [(mI, .inl (cL, 1200, .inr (.inl fI))), (mJ, .inl (cI, 4, .inl (k4i j0 j1 j2 j3))), (mS, .inl (cI, 4, .inl (k4i s0 s1 s2 st))), (mD, .inl (cL, 256, .inr (.inl fD))), (m0, .inr (8, [.ref mH, .int aM, .long aC, .int mM, .long mQ, .int oV, .int pL, .int lI, .int sW, .int dP, .int sT, .long aT, .int 8, .int iW, .ref mI, .ref mJ, .ref mS, .ref mD, .int iH, .int aE, .int mN, .long sZ, .ref mX, .int tS, .int tA, .int tW, .ref mA, .ref mB, .ref mW, .ref mL, .int lS])), (mH, .inl (cI, 512, .inl u_r_179))] H := hP
                    have hD : va_D A [(mI, .inl (cL, 1200, .inr (.inl fI))), (mJ, .inl (cI, 4, .inl (k4i j0 j1 j2 j3))), (mS, .inl (cI, 4, .inl (k4i s0 s1 s2 st))), (mD, .inl (cL, 256, .inr (.inl fD))), (m0, .inr (8, [.ref mH, .int aM, .long aC, .int mM, .long mQ, .int oV, .int pL, .int lI, .int sW, .int dP, .int sT, .long aT, .int 8, .int iW, .ref mI, .ref mJ, .ref mS, .ref mD, .int iH, .int aE, .int mN, .long sZ, .ref mX, .int tS, .int tA, .int tW, .ref mA, .ref mB, .ref mW, .ref mL, .int lS])), (mH, .inl (cI, 512, .inl u_r_179))] := hD
                    try dsimp only at wr_179
                    try simp only [Int32.reduceToInt, Int64.reduceToInt] at wr_179
                    refine lv_goto (tgt := 269) hx hb dX8_copies_243 (by decide) ?_
                    refine lv_iconst (v := 0) hx hb dX8_copies_269 (by decide) ?_
                    refine kIret (u := (pL, dP, 8, iW, u_r_179, fD, fI, j0, j1, j2, j3, s0, s1, s2, st)) hx hb hr rfl hlocks hS dX8_copies_270 ?_ (hP.sub [4, 5, 0, 1, 2, 3] rfl) (hD.sub [4, 5, 0, 1, 2, 3] (by decide) rfl)
                    try dsimp only
                    repeat' (with_reducible apply And.intro)
                    all_goals first | with_reducible assumption | ((try simp only [jT_, jP_, jD_, jC_, jB_, jW_, Int32.reduceToInt, Int64.reduceToInt, true_or, or_true, true_and, and_true]) <;> omega)
                refine lv_iload_n hx hb dX8_copies_165 rfl (lv_at hl 0 rfl) ?_
                refine lv_i2l hx hb dX8_copies_166 rfl ?_
                refine lv_lconst (v := 0) hx hb dX8_copies_167 (by decide) ?_
                refine lv_aload_n hx hb dX8_copies_168 rfl (lv_at hl 3 rfl) ?_
                refine va_get (D := D) (ci := 8) (v := .ref mJ) (C := RX8) (T := TX8) (N := 31) hx hb hts iX8_copies_X8 hown hK hP 0 rfl rfl 15 (by decide) (hts (.fieldLink RX8 17 "TapeCalculatorModel" "items" "[I") (List.mem_of_getElem? (i := 6) rfl)) (fun _ h9 => h9) rfl dX8_copies_169 ?_
                refine lv_iload_n hx hb dX8_copies_172 rfl (lv_at hl 1 rfl) ?_
                refine va_iald hx hb hK hP 3 0 rfl rfl (vp_in_iff.mpr (by decide)) dX8_copies_173 ?_
                refine lv_topi (fun x_180 ex_180 => ?_)
                obtain rfl : j3 = x_180 := ex_180.symm
                refine lv_iconst (v := 1) hx hb dX8_copies_174 (by decide) ?_
                refine lv_isub hx hb dX8_copies_175 ?_
                refine lv_i2l hx hb dX8_copies_176 rfl ?_
                refine kCallI (wr := [(m0, .inr (8, [.ref mH, .int aM, .long aC, .int mM, .long mQ, .int oV, .int pL, .int lI, .int sW, .int dP, .int sT, .long aT, .int 8, .int iW, .ref mI, .ref mJ, .ref mS, .ref mD, .int iH, .int aE, .int mN, .long sZ, .ref mX, .int tS, .int tA, .int tW, .ref mA, .ref mB, .ref mW, .ref mL, .int lS])), (mH, .inl (cI, 512, .inl fH)), (mI, .inl (cL, 1200, .inr (.inl fI))), (mJ, .inl (cI, 4, .inl (k4i j0 j1 j2 j3))), (mS, .inl (cI, 4, .inl (k4i s0 s1 s2 s3))), (mD, .inl (cL, 256, .inr (.inl fD)))]) (va_runS (As := [.long x_174.toInt64, .long 0, .long (j3 - 1).toInt64]) (rest := []) ⟨hx, hb, hml, hown, hts⟩ (q_in l D cI cL cB cZ cT _ (x_174.toInt64) 0 (j3 - 1).toInt64) (va_cwS 3 hts gX8_copies_X8_in rfl rfl rfl (by decide +kernel) ⟨Nat.le_of_ble_eq_true rfl, Nat.le_of_ble_eq_true rfl⟩) (kPreS hG hP hD [] rfl (by decide)) rfl rfl hl.1 rfl (lv_room (Nat.le_of_ble_eq_true rfl)) dX8_copies_177 ⟨Nat.le_of_ble_eq_true rfl, Nat.le_of_ble_eq_true rfl⟩) hA hP hD hS [] [0, 1, 2, 3, 4, 5] rfl rfl (by decide) (by decide) (fun r_181 u_r_181 H locs wr_181 hP hD hS => ?_)
                have hP : va_P D vwCl [(m0, .inr (8, [.ref mH, .int aM, .long aC, .int mM, .long mQ, .int oV, .int pL, .int lI, .int sW, .int dP, .int sT, .long aT, .int 8, .int iW, .ref mI, .ref mJ, .ref mS, .ref mD, .int iH, .int aE, .int mN, .long sZ, .ref mX, .int tS, .int tA, .int tW, .ref mA, .ref mB, .ref mW, .ref mL, .int lS])), (mH, .inl (cI, 512, .inl fH)), (mI, .inl (cL, 1200, .inr (.inl fI))), (mJ, .inl (cI, 4, .inl (k4i j0 j1 j2 j3))), (mS, .inl (cI, 4, .inl (k4i s0 s1 s2 s3))), (mD, .inl (cL, 256, .inr (.inl fD)))] H := hP
                have hD : va_D A [(m0, .inr (8, [.ref mH, .int aM, .long aC, .int mM, .long mQ, .int oV, .int pL, .int lI, .int sW, .int dP, .int sT, .long aT, .int 8, .int iW, .ref mI, .ref mJ, .ref mS, .ref mD, .int iH, .int aE, .int mN, .long sZ, .ref mX, .int tS, .int tA, .int tW, .ref mA, .ref mB, .ref mW, .ref mL, .int lS])), (mH, .inl (cI, 512, .inl fH)), (mI, .inl (cL, 1200, .inr (.inl fI))), (mJ, .inl (cI, 4, .inl (k4i j0 j1 j2 j3))), (mS, .inl (cI, 4, .inl (k4i s0 s1 s2 s3))), (mD, .inl (cL, 256, .inr (.inl fD)))] := hD
                try dsimp only at wr_181
                subst wr_181
                refine lv_if_eq (tgt := 198) hx hb dX8_copies_180 (by decide) (fun c_180_181 => ?_) (fun c_180_181 => ?_)
                · have t_180_181 := c_180_181
                  try simp only [kb_eq0, kb_ne0, lg_cmp_lt, lg_cmp_le, lg_cmp_gt, lg_cmp_ge, lg_cmp_eq] at t_180_181
                  try simp only [Int32.lt_iff_toInt_lt, Int32.le_iff_toInt_le, ← Int32.toInt_inj, Int64.lt_iff_toInt_lt, Int64.le_iff_toInt_le, ← Int64.toInt_inj, Int32.toInt_toInt64, Int32.reduceToInt, Int64.reduceToInt] at t_180_181
                  refine lv_ldc2 (v := (-9)) hx hb hown (hts (.constantLong RX8 107 (-9)) (List.mem_of_getElem? (i := 8) rfl)) dX8_copies_198 ?_
                  refine lv_lstore (lv' := [(4, .long (-9)), (3, .int x_174), (2, .int 3), (1, .int 1), (0, .ref m0)]) hx hb dX8_copies_201 hl (by decide) rfl (fun ls hl => ?_)
                  refine lv_lload hx hb dX8_copies_203 (lv_at hl 0 rfl) ?_
                  refine lv_ldc2 (v := (-9)) hx hb hown (hts (.constantLong RX8 107 (-9)) (List.mem_of_getElem? (i := 8) rfl)) dX8_copies_205 ?_
                  refine W.lcmp hx hb dX8_copies_208 ?_
                  refine lv_topi (fun x_183 ex_183 => ?_)
                  obtain rfl : x_183 = 0 := ex_183.trans (by decide)
                  refine lv_if_eq (tgt := 230) hx hb dX8_copies_209 (by decide) (fun c_209_183 => ?_) (fun c_209_183 => ?_)
                  · have t_209_183 := c_209_183
                    try simp only [kb_eq0, kb_ne0, lg_cmp_lt, lg_cmp_le, lg_cmp_gt, lg_cmp_ge, lg_cmp_eq] at t_209_183
                    try simp only [Int32.lt_iff_toInt_lt, Int32.le_iff_toInt_le, ← Int32.toInt_inj, Int64.lt_iff_toInt_lt, Int64.le_iff_toInt_le, ← Int64.toInt_inj, Int32.toInt_toInt64, Int32.reduceToInt, Int64.reduceToInt] at t_209_183
                    exact J230 (-9) s3 (by first | with_reducible assumption | ((try simp only [jT_, jP_, jD_, jC_, jB_, jW_, Int32.reduceToInt, Int64.reduceToInt, true_or, or_true, true_and, and_true]) <;> omega)) _ _ (hP.sub [0, 1, 2, 3, 4, 5] rfl) (hD.sub [0, 1, 2, 3, 4, 5] (by decide) rfl) hS ls (lv_sub hl [0, 1, 2, 3, 4] rfl)
                  · exact absurd (by decide) c_209_183
                · have t_180_181 := c_180_181
                  try simp only [kb_eq0, kb_ne0, lg_cmp_lt, lg_cmp_le, lg_cmp_gt, lg_cmp_ge, lg_cmp_eq] at t_180_181
                  try simp only [Int32.lt_iff_toInt_lt, Int32.le_iff_toInt_le, ← Int32.toInt_inj, Int64.lt_iff_toInt_lt, Int64.le_iff_toInt_le, ← Int64.toInt_inj, Int32.toInt_toInt64, Int32.reduceToInt, Int64.reduceToInt] at t_180_181
                  refine lv_aload_n hx hb dX8_copies_183 rfl (lv_at hl 3 rfl) ?_
                  refine va_get (D := D) (ci := 8) (v := .ref mI) (C := RX8) (T := TX8) (N := 31) hx hb hts iX8_copies_X8 hown hK hP 0 rfl rfl 14 (by decide) (hts (.fieldLink RX8 13 "TapeCalculatorModel" "item" "[J") (List.mem_of_getElem? (i := 7) rfl)) (fun _ h9 => h9) rfl dX8_copies_184 ?_
                  refine lv_sipush (v := 300) hx hb dX8_copies_187 (by decide) ?_
                  refine lv_iload_n hx hb dX8_copies_190 rfl (lv_at hl 1 rfl) ?_
                  refine lv_imul hx hb dX8_copies_191 ?_
                  refine lv_topi (fun x_185 ex_185 => ?_)
                  obtain rfl : x_185 = 900 := ex_185.trans (by decide)
                  refine lv_iload_n hx hb dX8_copies_192 rfl (lv_at hl 0 rfl) ?_
                  refine lv_iadd hx hb dX8_copies_193 ?_
                  refine va_lald hx hb hK hP 2 1 rfl rfl (vp_in_iff.mpr (by have hx9 := k_addg (a := 900) (b := x_174) (by decide) (by omega); simp only [Int32.reduceToInt] at hx9; omega)) dX8_copies_194 ?_
                  refine lv_goto (tgt := 201) hx hb dX8_copies_195 (by decide) ?_
                  refine lv_topl (fun x_186 ex_186 => ?_)
                  refine lv_lstore (lv' := [(4, .long x_186), (3, .int x_174), (2, .int 3), (1, .int 1), (0, .ref m0)]) hx hb dX8_copies_201 hl (by decide) rfl (fun ls hl => ?_)
                  refine lv_lload hx hb dX8_copies_203 (lv_at hl 0 rfl) ?_
                  refine lv_ldc2 (v := (-9)) hx hb hown (hts (.constantLong RX8 107 (-9)) (List.mem_of_getElem? (i := 8) rfl)) dX8_copies_205 ?_
                  refine W.lcmp hx hb dX8_copies_208 ?_
                  refine lv_if_eq (tgt := 230) hx hb dX8_copies_209 (by decide) (fun c_209_186 => ?_) (fun c_209_186 => ?_)
                  · have t_209_186 := c_209_186
                    try simp only [kb_eq0, kb_ne0, lg_cmp_lt, lg_cmp_le, lg_cmp_gt, lg_cmp_ge, lg_cmp_eq] at t_209_186
                    try simp only [Int32.lt_iff_toInt_lt, Int32.le_iff_toInt_le, ← Int32.toInt_inj, Int64.lt_iff_toInt_lt, Int64.le_iff_toInt_le, ← Int64.toInt_inj, Int32.toInt_toInt64, Int32.reduceToInt, Int64.reduceToInt] at t_209_186
                    exact J230 x_186 s3 (by first | with_reducible assumption | ((try simp only [jT_, jP_, jD_, jC_, jB_, jW_, Int32.reduceToInt, Int64.reduceToInt, true_or, or_true, true_and, and_true]) <;> omega)) _ _ (hP.sub [0, 1, 2, 3, 4, 5] rfl) (hD.sub [0, 1, 2, 3, 4, 5] (by decide) rfl) hS ls (lv_sub hl [0, 1, 2, 3, 4] rfl)
                  · have t_209_186 := c_209_186
                    try simp only [kb_eq0, kb_ne0, lg_cmp_lt, lg_cmp_le, lg_cmp_gt, lg_cmp_ge, lg_cmp_eq] at t_209_186
                    try simp only [Int32.lt_iff_toInt_lt, Int32.le_iff_toInt_le, ← Int32.toInt_inj, Int64.lt_iff_toInt_lt, Int64.le_iff_toInt_le, ← Int64.toInt_inj, Int32.toInt_toInt64, Int32.reduceToInt, Int64.reduceToInt] at t_209_186
                    refine lv_aload_n hx hb dX8_copies_212 rfl (lv_at hl 4 rfl) ?_
                    refine va_get (D := D) (ci := 8) (v := .ref mS) (C := RX8) (T := TX8) (N := 31) hx hb hts iX8_copies_X8 hown hK hP 0 rfl rfl 16 (by decide) (hts (.fieldLink RX8 20 "TapeCalculatorModel" "stands" "[I") (List.mem_of_getElem? (i := 5) rfl)) (fun _ h9 => h9) rfl dX8_copies_213 ?_
                    refine lv_iload_n hx hb dX8_copies_216 rfl (lv_at hl 2 rfl) ?_
                    refine lv_dup2_11 hx hb dX8_copies_217 rfl rfl ?_
                    refine va_iald hx hb hK hP 4 0 rfl rfl (vp_in_iff.mpr (by decide)) dX8_copies_218 ?_
                    refine lv_topi (fun x_188 ex_188 => ?_)
                    obtain rfl : s3 = x_188 := ex_188.symm
                    refine lv_iload_n hx hb dX8_copies_219 rfl (lv_at hl 3 rfl) ?_
                    refine lv_if_eq (tgt := 227) hx hb dX8_copies_220 (by decide) (fun c_220_188 => ?_) (fun c_220_188 => ?_)
                    · exact absurd c_220_188 (by decide)
                    · have t_220_188 := c_220_188
                      try simp only [kb_eq0, kb_ne0, lg_cmp_lt, lg_cmp_le, lg_cmp_gt, lg_cmp_ge, lg_cmp_eq] at t_220_188
                      try simp only [Int32.lt_iff_toInt_lt, Int32.le_iff_toInt_le, ← Int32.toInt_inj, Int64.lt_iff_toInt_lt, Int64.le_iff_toInt_le, ← Int64.toInt_inj, Int32.toInt_toInt64, Int32.reduceToInt, Int64.reduceToInt] at t_220_188
                      refine lv_iconst (v := (-1)) hx hb dX8_copies_223 (by decide) ?_
                      refine lv_goto (tgt := 228) hx hb dX8_copies_224 (by decide) ?_
                      refine lv_iadd hx hb dX8_copies_228 ?_
                      refine va_iast hx hb hK hP hD hS 4 0 rfl rfl (vp_in_iff.mpr (by decide)) dX8_copies_229 (fun H locs hP hD hS => ?_)
                      rw [k4i_3] at hP hD
                      have hP : va_P D vwCl [(m0, .inr (8, [.ref mH, .int aM, .long aC, .int mM, .long mQ, .int oV, .int pL, .int lI, .int sW, .int dP, .int sT, .long aT, .int 8, .int iW, .ref mI, .ref mJ, .ref mS, .ref mD, .int iH, .int aE, .int mN, .long sZ, .ref mX, .int tS, .int tA, .int tW, .ref mA, .ref mB, .ref mW, .ref mL, .int lS])), (mH, .inl (cI, 512, .inl fH)), (mI, .inl (cL, 1200, .inr (.inl fI))), (mJ, .inl (cI, 4, .inl (k4i j0 j1 j2 j3))), (mS, .inl (cI, 4, .inl (k4i s0 s1 s2 (s3 + (-1))))), (mD, .inl (cL, 256, .inr (.inl fD)))] H := hP
                      have hD : va_D A [(m0, .inr (8, [.ref mH, .int aM, .long aC, .int mM, .long mQ, .int oV, .int pL, .int lI, .int sW, .int dP, .int sT, .long aT, .int 8, .int iW, .ref mI, .ref mJ, .ref mS, .ref mD, .int iH, .int aE, .int mN, .long sZ, .ref mX, .int tS, .int tA, .int tW, .ref mA, .ref mB, .ref mW, .ref mL, .int lS])), (mH, .inl (cI, 512, .inl fH)), (mI, .inl (cL, 1200, .inr (.inl fI))), (mJ, .inl (cI, 4, .inl (k4i j0 j1 j2 j3))), (mS, .inl (cI, 4, .inl (k4i s0 s1 s2 (s3 + (-1))))), (mD, .inl (cL, 256, .inr (.inl fD)))] := hD
                      exact J230 x_186 (s3 + (-1)) (by first | with_reducible assumption | ((try simp only [jT_, jP_, jD_, jC_, jB_, jW_, Int32.reduceToInt, Int64.reduceToInt, true_or, or_true, true_and, and_true]) <;> omega)) _ _ (hP.sub [0, 1, 2, 3, 4, 5] rfl) (hD.sub [0, 1, 2, 3, 4, 5] (by decide) rfl) hS ls (lv_sub hl [0, 1, 2, 3, 4] rfl)
        · exact absurd (by decide) c_79_167
      · exact absurd (by decide) c_16_166
    · exact absurd c_4_165 (by decide)
  · refine lv_aload_n hx hb dX8_copies_0 rfl (lv_at hl 0 rfl) ?_
    refine va_get (D := D) (ci := 8) (v := .int 9) (C := RX8) (T := TX8) (N := 31) hx hb hts iX8_copies_X8 hown hK hP 0 rfl rfl 12 (by decide) (hts (.fieldLink RX8 43 "TapeCalculatorModel" "chosen" "I") (List.mem_of_getElem? (i := 1) rfl)) (fun _ h9 => h9) rfl dX8_copies_1 ?_
    refine lv_if_ne (tgt := 10) hx hb dX8_copies_4 (by decide) (fun c_4_189 => ?_) (fun c_4_189 => ?_)
    · have t_4_189 := c_4_189
      try simp only [kb_eq0, kb_ne0, lg_cmp_lt, lg_cmp_le, lg_cmp_gt, lg_cmp_ge, lg_cmp_eq] at t_4_189
      try simp only [Int32.lt_iff_toInt_lt, Int32.le_iff_toInt_le, ← Int32.toInt_inj, Int64.lt_iff_toInt_lt, Int64.le_iff_toInt_le, ← Int64.toInt_inj, Int32.toInt_toInt64, Int32.reduceToInt, Int64.reduceToInt] at t_4_189
      refine lv_aload_n hx hb dX8_copies_10 rfl (lv_at hl 0 rfl) ?_
      refine va_get (D := D) (ci := 8) (v := .int 9) (C := RX8) (T := TX8) (N := 31) hx hb hts iX8_copies_X8 hown hK hP 0 rfl rfl 12 (by decide) (hts (.fieldLink RX8 43 "TapeCalculatorModel" "chosen" "I") (List.mem_of_getElem? (i := 1) rfl)) (fun _ h9 => h9) rfl dX8_copies_11 ?_
      refine lv_bipush (v := 12) hx hb dX8_copies_14 (by decide) ?_
      refine lv_icmp_le (tgt := 73) hx hb dX8_copies_16 (by decide) (fun c_16_190 => ?_) (fun c_16_190 => ?_)
      · have t_16_190 := c_16_190
        try simp only [kb_eq0, kb_ne0, lg_cmp_lt, lg_cmp_le, lg_cmp_gt, lg_cmp_ge, lg_cmp_eq] at t_16_190
        try simp only [Int32.lt_iff_toInt_lt, Int32.le_iff_toInt_le, ← Int32.toInt_inj, Int64.lt_iff_toInt_lt, Int64.le_iff_toInt_le, ← Int64.toInt_inj, Int32.toInt_toInt64, Int32.reduceToInt, Int64.reduceToInt] at t_16_190
        refine lv_aload_n hx hb dX8_copies_73 rfl (lv_at hl 0 rfl) ?_
        refine va_get (D := D) (ci := 8) (v := .int 9) (C := RX8) (T := TX8) (N := 31) hx hb hts iX8_copies_X8 hown hK hP 0 rfl rfl 12 (by decide) (hts (.fieldLink RX8 43 "TapeCalculatorModel" "chosen" "I") (List.mem_of_getElem? (i := 1) rfl)) (fun _ h9 => h9) rfl dX8_copies_74 ?_
        refine lv_bipush (v := 8) hx hb dX8_copies_77 (by decide) ?_
        refine lv_icmp_le (tgt := 109) hx hb dX8_copies_79 (by decide) (fun c_79_191 => ?_) (fun c_79_191 => ?_)
        · exact absurd c_79_191 (by decide)
        · have t_79_191 := c_79_191
          try simp only [kb_eq0, kb_ne0, lg_cmp_lt, lg_cmp_le, lg_cmp_gt, lg_cmp_ge, lg_cmp_eq] at t_79_191
          try simp only [Int32.lt_iff_toInt_lt, Int32.le_iff_toInt_le, ← Int32.toInt_inj, Int64.lt_iff_toInt_lt, Int64.le_iff_toInt_le, ← Int64.toInt_inj, Int32.toInt_toInt64, Int32.reduceToInt, Int64.reduceToInt] at t_79_191
          refine lv_aload_n hx hb dX8_copies_82 rfl (lv_at hl 0 rfl) ?_
          refine lv_aload_n hx hb dX8_copies_83 rfl (lv_at hl 0 rfl) ?_
          refine va_get (D := D) (ci := 8) (v := .int 9) (C := RX8) (T := TX8) (N := 31) hx hb hts iX8_copies_X8 hown hK hP 0 rfl rfl 12 (by decide) (hts (.fieldLink RX8 43 "TapeCalculatorModel" "chosen" "I") (List.mem_of_getElem? (i := 1) rfl)) (fun _ h9 => h9) rfl dX8_copies_84 ?_
          refine lv_bipush (v := 9) hx hb dX8_copies_87 (by decide) ?_
          refine lv_isub hx hb dX8_copies_89 ?_
          refine lv_topi (fun x_193 ex_193 => ?_)
          obtain rfl : x_193 = 0 := ex_193.trans (by decide)
          refine lv_aload_n hx hb dX8_copies_90 rfl (lv_at hl 0 rfl) ?_
          refine kCallL (wr := [(mI, .inl (cL, 1200, .inr (.inl fI))), (mJ, .inl (cI, 4, .inl (k4i j0 j1 j2 j3))), (mS, .inl (cI, 4, .inl (k4i s0 s1 s2 s3))), (mD, .inl (cL, 256, .inr (.inl fD)))]) (va_runV (As := []) (rest := [.int 0, .ref m0]) ⟨hx, hb, hml, hown, hts⟩ (q_operandBits l D cI cL cB cZ cT _ m0 mH mI mJ mS mD mX mA mB mW mL aM aC mM mQ oV pL lI sW dP sT aT 9 iW iH aE mN sZ tS tA tW lS fH (by omega)) (cwV 0 hts gX8_copies_X8_operandBits rfl rfl rfl (by decide +kernel) ⟨Nat.le_of_ble_eq_true rfl, Nat.le_of_ble_eq_true rfl⟩) (kPreV hG hP hD [0, 1] rfl (by decide) 0 8 rfl rfl rfl) rfl rfl hl.1 rfl (lv_room (Nat.le_of_ble_eq_true rfl)) dX8_copies_91 ⟨Nat.le_of_ble_eq_true rfl, Nat.le_of_ble_eq_true rfl⟩) hA hP hD hS [0, 1] [2, 3, 4, 5] rfl rfl (by decide) (by decide) (fun r_194 u_r_194 H locs wr_194 hP hD hS => ?_)
          have hP : va_P D vwCl [(mI, .inl (cL, 1200, .inr (.inl fI))), (mJ, .inl (cI, 4, .inl (k4i j0 j1 j2 j3))), (mS, .inl (cI, 4, .inl (k4i s0 s1 s2 s3))), (mD, .inl (cL, 256, .inr (.inl fD))), (m0, .inr (8, [.ref mH, .int aM, .long aC, .int mM, .long mQ, .int oV, .int pL, .int lI, .int sW, .int dP, .int sT, .long aT, .int 9, .int iW, .ref mI, .ref mJ, .ref mS, .ref mD, .int iH, .int aE, .int mN, .long sZ, .ref mX, .int tS, .int tA, .int tW, .ref mA, .ref mB, .ref mW, .ref mL, .int lS])), (mH, .inl (cI, 512, .inl fH))] H := hP
          have hD : va_D A [(mI, .inl (cL, 1200, .inr (.inl fI))), (mJ, .inl (cI, 4, .inl (k4i j0 j1 j2 j3))), (mS, .inl (cI, 4, .inl (k4i s0 s1 s2 s3))), (mD, .inl (cL, 256, .inr (.inl fD))), (m0, .inr (8, [.ref mH, .int aM, .long aC, .int mM, .long mQ, .int oV, .int pL, .int lI, .int sW, .int dP, .int sT, .long aT, .int 9, .int iW, .ref mI, .ref mJ, .ref mS, .ref mD, .int iH, .int aE, .int mN, .long sZ, .ref mX, .int tS, .int tA, .int tW, .ref mA, .ref mB, .ref mW, .ref mL, .int lS])), (mH, .inl (cI, 512, .inl fH))] := hD
          try dsimp only at wr_194
          try simp only [Int32.reduceToInt, Int64.reduceToInt] at wr_194
          refine kCallI (wr := [(mD, .inl (cL, 256, .inr (.inl fD))), (mH, .inl (cI, 512, .inl fH))]) (va_runV (As := [.int 0, .long r_194]) (rest := []) ⟨hx, hb, hml, hown, hts⟩ (q_puts l D cI cL cB cZ cT _ m0 mH mI mJ mS mD mX mA mB mW mL aM aC mM mQ oV pL lI sW dP sT aT 9 iW iH aE mN sZ tS tA tW lS fI j0 j1 j2 j3 s0 s1 s2 s3 0 r_194 (by first | with_reducible assumption | ((try simp only [jT_, jP_, jD_, jC_, jB_, jW_, Int32.reduceToInt, Int64.reduceToInt, true_or, or_true, true_and, and_true]) <;> omega)) (by first | with_reducible assumption | ((try simp only [jT_, jP_, jD_, jC_, jB_, jW_, Int32.reduceToInt, Int64.reduceToInt, true_or, or_true, true_and, and_true]) <;> omega)) (by first | with_reducible assumption | ((try simp only [jT_, jP_, jD_, jC_, jB_, jW_, Int32.reduceToInt, Int64.reduceToInt, true_or, or_true, true_and, and_true]) <;> omega)) (by first | with_reducible assumption | ((try simp only [jT_, jP_, jD_, jC_, jB_, jW_, Int32.reduceToInt, Int64.reduceToInt, true_or, or_true, true_and, and_true]) <;> omega)) (by decide)) (cwV 2 hts gX8_copies_X8_puts rfl rfl rfl (by decide +kernel) ⟨Nat.le_of_ble_eq_true rfl, Nat.le_of_ble_eq_true rfl⟩) (kPreV hG hP hD [4, 0, 1, 2] rfl (by decide) 0 8 rfl rfl rfl) rfl rfl hl.1 rfl (lv_room (Nat.le_of_ble_eq_true rfl)) dX8_copies_94 ⟨Nat.le_of_ble_eq_true rfl, Nat.le_of_ble_eq_true rfl⟩) hA hP hD hS [4, 0, 1, 2] [3, 5] rfl rfl (by decide) (by decide) (fun r_195 u_r_195 H locs wr_195 hP hD hS => ?_)
          have hP : va_P D vwCl [(mD, .inl (cL, 256, .inr (.inl fD))), (mH, .inl (cI, 512, .inl fH)), (m0, .inr (8, [.ref mH, .int aM, .long aC, .int mM, .long mQ, .int oV, .int pL, .int lI, .int sW, .int dP, .int sT, .long aT, .int 9, .int iW, .ref mI, .ref mJ, .ref mS, .ref mD, .int iH, .int aE, .int mN, .long sZ, .ref mX, .int tS, .int tA, .int tW, .ref mA, .ref mB, .ref mW, .ref mL, .int lS])), (mI, .inl (cL, 1200, .inr (.inl u_r_195.1))), (mJ, .inl (cI, 4, .inl (k4i u_r_195.2.1 u_r_195.2.2.1 u_r_195.2.2.2.1 u_r_195.2.2.2.2.1))), (mS, .inl (cI, 4, .inl (k4i u_r_195.2.2.2.2.2.1 u_r_195.2.2.2.2.2.2.1 u_r_195.2.2.2.2.2.2.2.1 u_r_195.2.2.2.2.2.2.2.2)))] H := hP
          have hD : va_D A [(mD, .inl (cL, 256, .inr (.inl fD))), (mH, .inl (cI, 512, .inl fH)), (m0, .inr (8, [.ref mH, .int aM, .long aC, .int mM, .long mQ, .int oV, .int pL, .int lI, .int sW, .int dP, .int sT, .long aT, .int 9, .int iW, .ref mI, .ref mJ, .ref mS, .ref mD, .int iH, .int aE, .int mN, .long sZ, .ref mX, .int tS, .int tA, .int tW, .ref mA, .ref mB, .ref mW, .ref mL, .int lS])), (mI, .inl (cL, 1200, .inr (.inl u_r_195.1))), (mJ, .inl (cI, 4, .inl (k4i u_r_195.2.1 u_r_195.2.2.1 u_r_195.2.2.2.1 u_r_195.2.2.2.2.1))), (mS, .inl (cI, 4, .inl (k4i u_r_195.2.2.2.2.2.1 u_r_195.2.2.2.2.2.2.1 u_r_195.2.2.2.2.2.2.2.1 u_r_195.2.2.2.2.2.2.2.2)))] := hD
          try dsimp only at wr_195
          try simp only [Int32.reduceToInt, Int64.reduceToInt] at wr_195
          obtain ⟨wr_195_0, wr_195_1, wr_195_2, wr_195_3, wr_195_4⟩ := wr_195
          refine lv_if_ne (tgt := 102) hx hb dX8_copies_97 (by decide) (fun c_97_195 => ?_) (fun c_97_195 => ?_)
          · have t_97_195 := c_97_195
            try simp only [kb_eq0, kb_ne0, lg_cmp_lt, lg_cmp_le, lg_cmp_gt, lg_cmp_ge, lg_cmp_eq] at t_97_195
            try simp only [Int32.lt_iff_toInt_lt, Int32.le_iff_toInt_le, ← Int32.toInt_inj, Int64.lt_iff_toInt_lt, Int64.le_iff_toInt_le, ← Int64.toInt_inj, Int32.toInt_toInt64, Int32.reduceToInt, Int64.reduceToInt] at t_97_195
            refine lv_aload_n hx hb dX8_copies_102 rfl (lv_at hl 0 rfl) ?_
            refine lv_iconst (v := 1) hx hb dX8_copies_103 (by decide) ?_
            refine va_put (D := D) (ci := 8) (v := .int 1) (ty := .boolean) (C := RX8) (T := TX8) (N := 31) hx hb hts iX8_copies_X8 tyX8 tyX8_ok nmX8 hown hK hP hD hS 2 rfl rfl 13 (by decide) (hts (.fieldLink RX8 115 "TapeCalculatorModel" "isWritten" "Z") (List.mem_of_getElem? (i := 4) rfl)) (fun _ h9 => h9) rfl (by decide +kernel) rfl rfl (Nat.le_of_ble_eq_true rfl) dX8_copies_104 (fun H locs hP hD hS => ?_)
            have hP : va_P D vwCl [(mD, .inl (cL, 256, .inr (.inl fD))), (mH, .inl (cI, 512, .inl fH)), (m0, .inr (8, [.ref mH, .int aM, .long aC, .int mM, .long mQ, .int oV, .int pL, .int lI, .int sW, .int dP, .int sT, .long aT, .int 9, .int 1, .ref mI, .ref mJ, .ref mS, .ref mD, .int iH, .int aE, .int mN, .long sZ, .ref mX, .int tS, .int tA, .int tW, .ref mA, .ref mB, .ref mW, .ref mL, .int lS])), (mI, .inl (cL, 1200, .inr (.inl u_r_195.1))), (mJ, .inl (cI, 4, .inl (k4i u_r_195.2.1 u_r_195.2.2.1 u_r_195.2.2.2.1 u_r_195.2.2.2.2.1))), (mS, .inl (cI, 4, .inl (k4i u_r_195.2.2.2.2.2.1 u_r_195.2.2.2.2.2.2.1 u_r_195.2.2.2.2.2.2.2.1 u_r_195.2.2.2.2.2.2.2.2)))] H := hP
            have hD : va_D A [(mD, .inl (cL, 256, .inr (.inl fD))), (mH, .inl (cI, 512, .inl fH)), (m0, .inr (8, [.ref mH, .int aM, .long aC, .int mM, .long mQ, .int oV, .int pL, .int lI, .int sW, .int dP, .int sT, .long aT, .int 9, .int 1, .ref mI, .ref mJ, .ref mS, .ref mD, .int iH, .int aE, .int mN, .long sZ, .ref mX, .int tS, .int tA, .int tW, .ref mA, .ref mB, .ref mW, .ref mL, .int lS])), (mI, .inl (cL, 1200, .inr (.inl u_r_195.1))), (mJ, .inl (cI, 4, .inl (k4i u_r_195.2.1 u_r_195.2.2.1 u_r_195.2.2.2.1 u_r_195.2.2.2.2.1))), (mS, .inl (cI, 4, .inl (k4i u_r_195.2.2.2.2.2.1 u_r_195.2.2.2.2.2.2.1 u_r_195.2.2.2.2.2.2.2.1 u_r_195.2.2.2.2.2.2.2.2)))] := hD
            refine lv_iconst (v := 0) hx hb dX8_copies_107 (by decide) ?_
            refine kIret (u := (pL, dP, 9, 1, fH, fD, u_r_195.1, u_r_195.2.1, u_r_195.2.2.1, u_r_195.2.2.2.1, u_r_195.2.2.2.2.1, u_r_195.2.2.2.2.2.1, u_r_195.2.2.2.2.2.2.1, u_r_195.2.2.2.2.2.2.2.1, u_r_195.2.2.2.2.2.2.2.2)) hx hb hr rfl hlocks hS dX8_copies_108 ?_ (hP.sub [2, 1, 3, 4, 5, 0] rfl) (hD.sub [2, 1, 3, 4, 5, 0] (by decide) rfl)
            try dsimp only
            repeat' (with_reducible apply And.intro)
            all_goals first | with_reducible assumption | ((try simp only [jT_, jP_, jD_, jC_, jB_, jW_, Int32.reduceToInt, Int64.reduceToInt, true_or, or_true, true_and, and_true]) <;> omega)
          · have t_97_195 := c_97_195
            try simp only [kb_eq0, kb_ne0, lg_cmp_lt, lg_cmp_le, lg_cmp_gt, lg_cmp_ge, lg_cmp_eq] at t_97_195
            try simp only [Int32.lt_iff_toInt_lt, Int32.le_iff_toInt_le, ← Int32.toInt_inj, Int64.lt_iff_toInt_lt, Int64.le_iff_toInt_le, ← Int64.toInt_inj, Int32.toInt_toInt64, Int32.reduceToInt, Int64.reduceToInt] at t_97_195
            refine lv_iconst (v := 5) hx hb dX8_copies_100 (by decide) ?_
            refine kIret (u := (pL, dP, 9, iW, fH, fD, u_r_195.1, u_r_195.2.1, u_r_195.2.2.1, u_r_195.2.2.2.1, u_r_195.2.2.2.2.1, u_r_195.2.2.2.2.2.1, u_r_195.2.2.2.2.2.2.1, u_r_195.2.2.2.2.2.2.2.1, u_r_195.2.2.2.2.2.2.2.2)) hx hb hr rfl hlocks hS dX8_copies_101 ?_ (hP.sub [2, 1, 3, 4, 5, 0] rfl) (hD.sub [2, 1, 3, 4, 5, 0] (by decide) rfl)
            try dsimp only
            repeat' (with_reducible apply And.intro)
            all_goals first | with_reducible assumption | ((try simp only [jT_, jP_, jD_, jC_, jB_, jW_, Int32.reduceToInt, Int64.reduceToInt, true_or, or_true, true_and, and_true]) <;> omega)
      · exact absurd (by decide) c_16_190
    · exact absurd c_4_189 (by decide)
  · refine lv_aload_n hx hb dX8_copies_0 rfl (lv_at hl 0 rfl) ?_
    refine va_get (D := D) (ci := 8) (v := .int 10) (C := RX8) (T := TX8) (N := 31) hx hb hts iX8_copies_X8 hown hK hP 0 rfl rfl 12 (by decide) (hts (.fieldLink RX8 43 "TapeCalculatorModel" "chosen" "I") (List.mem_of_getElem? (i := 1) rfl)) (fun _ h9 => h9) rfl dX8_copies_1 ?_
    refine lv_if_ne (tgt := 10) hx hb dX8_copies_4 (by decide) (fun c_4_196 => ?_) (fun c_4_196 => ?_)
    · have t_4_196 := c_4_196
      try simp only [kb_eq0, kb_ne0, lg_cmp_lt, lg_cmp_le, lg_cmp_gt, lg_cmp_ge, lg_cmp_eq] at t_4_196
      try simp only [Int32.lt_iff_toInt_lt, Int32.le_iff_toInt_le, ← Int32.toInt_inj, Int64.lt_iff_toInt_lt, Int64.le_iff_toInt_le, ← Int64.toInt_inj, Int32.toInt_toInt64, Int32.reduceToInt, Int64.reduceToInt] at t_4_196
      refine lv_aload_n hx hb dX8_copies_10 rfl (lv_at hl 0 rfl) ?_
      refine va_get (D := D) (ci := 8) (v := .int 10) (C := RX8) (T := TX8) (N := 31) hx hb hts iX8_copies_X8 hown hK hP 0 rfl rfl 12 (by decide) (hts (.fieldLink RX8 43 "TapeCalculatorModel" "chosen" "I") (List.mem_of_getElem? (i := 1) rfl)) (fun _ h9 => h9) rfl dX8_copies_11 ?_
      refine lv_bipush (v := 12) hx hb dX8_copies_14 (by decide) ?_
      refine lv_icmp_le (tgt := 73) hx hb dX8_copies_16 (by decide) (fun c_16_197 => ?_) (fun c_16_197 => ?_)
      · have t_16_197 := c_16_197
        try simp only [kb_eq0, kb_ne0, lg_cmp_lt, lg_cmp_le, lg_cmp_gt, lg_cmp_ge, lg_cmp_eq] at t_16_197
        try simp only [Int32.lt_iff_toInt_lt, Int32.le_iff_toInt_le, ← Int32.toInt_inj, Int64.lt_iff_toInt_lt, Int64.le_iff_toInt_le, ← Int64.toInt_inj, Int32.toInt_toInt64, Int32.reduceToInt, Int64.reduceToInt] at t_16_197
        refine lv_aload_n hx hb dX8_copies_73 rfl (lv_at hl 0 rfl) ?_
        refine va_get (D := D) (ci := 8) (v := .int 10) (C := RX8) (T := TX8) (N := 31) hx hb hts iX8_copies_X8 hown hK hP 0 rfl rfl 12 (by decide) (hts (.fieldLink RX8 43 "TapeCalculatorModel" "chosen" "I") (List.mem_of_getElem? (i := 1) rfl)) (fun _ h9 => h9) rfl dX8_copies_74 ?_
        refine lv_bipush (v := 8) hx hb dX8_copies_77 (by decide) ?_
        refine lv_icmp_le (tgt := 109) hx hb dX8_copies_79 (by decide) (fun c_79_198 => ?_) (fun c_79_198 => ?_)
        · exact absurd c_79_198 (by decide)
        · have t_79_198 := c_79_198
          try simp only [kb_eq0, kb_ne0, lg_cmp_lt, lg_cmp_le, lg_cmp_gt, lg_cmp_ge, lg_cmp_eq] at t_79_198
          try simp only [Int32.lt_iff_toInt_lt, Int32.le_iff_toInt_le, ← Int32.toInt_inj, Int64.lt_iff_toInt_lt, Int64.le_iff_toInt_le, ← Int64.toInt_inj, Int32.toInt_toInt64, Int32.reduceToInt, Int64.reduceToInt] at t_79_198
          refine lv_aload_n hx hb dX8_copies_82 rfl (lv_at hl 0 rfl) ?_
          refine lv_aload_n hx hb dX8_copies_83 rfl (lv_at hl 0 rfl) ?_
          refine va_get (D := D) (ci := 8) (v := .int 10) (C := RX8) (T := TX8) (N := 31) hx hb hts iX8_copies_X8 hown hK hP 0 rfl rfl 12 (by decide) (hts (.fieldLink RX8 43 "TapeCalculatorModel" "chosen" "I") (List.mem_of_getElem? (i := 1) rfl)) (fun _ h9 => h9) rfl dX8_copies_84 ?_
          refine lv_bipush (v := 9) hx hb dX8_copies_87 (by decide) ?_
          refine lv_isub hx hb dX8_copies_89 ?_
          refine lv_topi (fun x_200 ex_200 => ?_)
          obtain rfl : x_200 = 1 := ex_200.trans (by decide)
          refine lv_aload_n hx hb dX8_copies_90 rfl (lv_at hl 0 rfl) ?_
          refine kCallL (wr := [(mI, .inl (cL, 1200, .inr (.inl fI))), (mJ, .inl (cI, 4, .inl (k4i j0 j1 j2 j3))), (mS, .inl (cI, 4, .inl (k4i s0 s1 s2 s3))), (mD, .inl (cL, 256, .inr (.inl fD)))]) (va_runV (As := []) (rest := [.int 1, .ref m0]) ⟨hx, hb, hml, hown, hts⟩ (q_operandBits l D cI cL cB cZ cT _ m0 mH mI mJ mS mD mX mA mB mW mL aM aC mM mQ oV pL lI sW dP sT aT 10 iW iH aE mN sZ tS tA tW lS fH (by omega)) (cwV 0 hts gX8_copies_X8_operandBits rfl rfl rfl (by decide +kernel) ⟨Nat.le_of_ble_eq_true rfl, Nat.le_of_ble_eq_true rfl⟩) (kPreV hG hP hD [0, 1] rfl (by decide) 0 8 rfl rfl rfl) rfl rfl hl.1 rfl (lv_room (Nat.le_of_ble_eq_true rfl)) dX8_copies_91 ⟨Nat.le_of_ble_eq_true rfl, Nat.le_of_ble_eq_true rfl⟩) hA hP hD hS [0, 1] [2, 3, 4, 5] rfl rfl (by decide) (by decide) (fun r_201 u_r_201 H locs wr_201 hP hD hS => ?_)
          have hP : va_P D vwCl [(mI, .inl (cL, 1200, .inr (.inl fI))), (mJ, .inl (cI, 4, .inl (k4i j0 j1 j2 j3))), (mS, .inl (cI, 4, .inl (k4i s0 s1 s2 s3))), (mD, .inl (cL, 256, .inr (.inl fD))), (m0, .inr (8, [.ref mH, .int aM, .long aC, .int mM, .long mQ, .int oV, .int pL, .int lI, .int sW, .int dP, .int sT, .long aT, .int 10, .int iW, .ref mI, .ref mJ, .ref mS, .ref mD, .int iH, .int aE, .int mN, .long sZ, .ref mX, .int tS, .int tA, .int tW, .ref mA, .ref mB, .ref mW, .ref mL, .int lS])), (mH, .inl (cI, 512, .inl fH))] H := hP
          have hD : va_D A [(mI, .inl (cL, 1200, .inr (.inl fI))), (mJ, .inl (cI, 4, .inl (k4i j0 j1 j2 j3))), (mS, .inl (cI, 4, .inl (k4i s0 s1 s2 s3))), (mD, .inl (cL, 256, .inr (.inl fD))), (m0, .inr (8, [.ref mH, .int aM, .long aC, .int mM, .long mQ, .int oV, .int pL, .int lI, .int sW, .int dP, .int sT, .long aT, .int 10, .int iW, .ref mI, .ref mJ, .ref mS, .ref mD, .int iH, .int aE, .int mN, .long sZ, .ref mX, .int tS, .int tA, .int tW, .ref mA, .ref mB, .ref mW, .ref mL, .int lS])), (mH, .inl (cI, 512, .inl fH))] := hD
          try dsimp only at wr_201
          try simp only [Int32.reduceToInt, Int64.reduceToInt] at wr_201
          refine kCallI (wr := [(mD, .inl (cL, 256, .inr (.inl fD))), (mH, .inl (cI, 512, .inl fH))]) (va_runV (As := [.int 1, .long r_201]) (rest := []) ⟨hx, hb, hml, hown, hts⟩ (q_puts l D cI cL cB cZ cT _ m0 mH mI mJ mS mD mX mA mB mW mL aM aC mM mQ oV pL lI sW dP sT aT 10 iW iH aE mN sZ tS tA tW lS fI j0 j1 j2 j3 s0 s1 s2 s3 1 r_201 (by first | with_reducible assumption | ((try simp only [jT_, jP_, jD_, jC_, jB_, jW_, Int32.reduceToInt, Int64.reduceToInt, true_or, or_true, true_and, and_true]) <;> omega)) (by first | with_reducible assumption | ((try simp only [jT_, jP_, jD_, jC_, jB_, jW_, Int32.reduceToInt, Int64.reduceToInt, true_or, or_true, true_and, and_true]) <;> omega)) (by first | with_reducible assumption | ((try simp only [jT_, jP_, jD_, jC_, jB_, jW_, Int32.reduceToInt, Int64.reduceToInt, true_or, or_true, true_and, and_true]) <;> omega)) (by first | with_reducible assumption | ((try simp only [jT_, jP_, jD_, jC_, jB_, jW_, Int32.reduceToInt, Int64.reduceToInt, true_or, or_true, true_and, and_true]) <;> omega)) (by decide)) (cwV 2 hts gX8_copies_X8_puts rfl rfl rfl (by decide +kernel) ⟨Nat.le_of_ble_eq_true rfl, Nat.le_of_ble_eq_true rfl⟩) (kPreV hG hP hD [4, 0, 1, 2] rfl (by decide) 0 8 rfl rfl rfl) rfl rfl hl.1 rfl (lv_room (Nat.le_of_ble_eq_true rfl)) dX8_copies_94 ⟨Nat.le_of_ble_eq_true rfl, Nat.le_of_ble_eq_true rfl⟩) hA hP hD hS [4, 0, 1, 2] [3, 5] rfl rfl (by decide) (by decide) (fun r_202 u_r_202 H locs wr_202 hP hD hS => ?_)
          have hP : va_P D vwCl [(mD, .inl (cL, 256, .inr (.inl fD))), (mH, .inl (cI, 512, .inl fH)), (m0, .inr (8, [.ref mH, .int aM, .long aC, .int mM, .long mQ, .int oV, .int pL, .int lI, .int sW, .int dP, .int sT, .long aT, .int 10, .int iW, .ref mI, .ref mJ, .ref mS, .ref mD, .int iH, .int aE, .int mN, .long sZ, .ref mX, .int tS, .int tA, .int tW, .ref mA, .ref mB, .ref mW, .ref mL, .int lS])), (mI, .inl (cL, 1200, .inr (.inl u_r_202.1))), (mJ, .inl (cI, 4, .inl (k4i u_r_202.2.1 u_r_202.2.2.1 u_r_202.2.2.2.1 u_r_202.2.2.2.2.1))), (mS, .inl (cI, 4, .inl (k4i u_r_202.2.2.2.2.2.1 u_r_202.2.2.2.2.2.2.1 u_r_202.2.2.2.2.2.2.2.1 u_r_202.2.2.2.2.2.2.2.2)))] H := hP
          have hD : va_D A [(mD, .inl (cL, 256, .inr (.inl fD))), (mH, .inl (cI, 512, .inl fH)), (m0, .inr (8, [.ref mH, .int aM, .long aC, .int mM, .long mQ, .int oV, .int pL, .int lI, .int sW, .int dP, .int sT, .long aT, .int 10, .int iW, .ref mI, .ref mJ, .ref mS, .ref mD, .int iH, .int aE, .int mN, .long sZ, .ref mX, .int tS, .int tA, .int tW, .ref mA, .ref mB, .ref mW, .ref mL, .int lS])), (mI, .inl (cL, 1200, .inr (.inl u_r_202.1))), (mJ, .inl (cI, 4, .inl (k4i u_r_202.2.1 u_r_202.2.2.1 u_r_202.2.2.2.1 u_r_202.2.2.2.2.1))), (mS, .inl (cI, 4, .inl (k4i u_r_202.2.2.2.2.2.1 u_r_202.2.2.2.2.2.2.1 u_r_202.2.2.2.2.2.2.2.1 u_r_202.2.2.2.2.2.2.2.2)))] := hD
          try dsimp only at wr_202
          try simp only [Int32.reduceToInt, Int64.reduceToInt] at wr_202
          obtain ⟨wr_202_0, wr_202_1, wr_202_2, wr_202_3, wr_202_4⟩ := wr_202
          refine lv_if_ne (tgt := 102) hx hb dX8_copies_97 (by decide) (fun c_97_202 => ?_) (fun c_97_202 => ?_)
          · have t_97_202 := c_97_202
            try simp only [kb_eq0, kb_ne0, lg_cmp_lt, lg_cmp_le, lg_cmp_gt, lg_cmp_ge, lg_cmp_eq] at t_97_202
            try simp only [Int32.lt_iff_toInt_lt, Int32.le_iff_toInt_le, ← Int32.toInt_inj, Int64.lt_iff_toInt_lt, Int64.le_iff_toInt_le, ← Int64.toInt_inj, Int32.toInt_toInt64, Int32.reduceToInt, Int64.reduceToInt] at t_97_202
            refine lv_aload_n hx hb dX8_copies_102 rfl (lv_at hl 0 rfl) ?_
            refine lv_iconst (v := 1) hx hb dX8_copies_103 (by decide) ?_
            refine va_put (D := D) (ci := 8) (v := .int 1) (ty := .boolean) (C := RX8) (T := TX8) (N := 31) hx hb hts iX8_copies_X8 tyX8 tyX8_ok nmX8 hown hK hP hD hS 2 rfl rfl 13 (by decide) (hts (.fieldLink RX8 115 "TapeCalculatorModel" "isWritten" "Z") (List.mem_of_getElem? (i := 4) rfl)) (fun _ h9 => h9) rfl (by decide +kernel) rfl rfl (Nat.le_of_ble_eq_true rfl) dX8_copies_104 (fun H locs hP hD hS => ?_)
            have hP : va_P D vwCl [(mD, .inl (cL, 256, .inr (.inl fD))), (mH, .inl (cI, 512, .inl fH)), (m0, .inr (8, [.ref mH, .int aM, .long aC, .int mM, .long mQ, .int oV, .int pL, .int lI, .int sW, .int dP, .int sT, .long aT, .int 10, .int 1, .ref mI, .ref mJ, .ref mS, .ref mD, .int iH, .int aE, .int mN, .long sZ, .ref mX, .int tS, .int tA, .int tW, .ref mA, .ref mB, .ref mW, .ref mL, .int lS])), (mI, .inl (cL, 1200, .inr (.inl u_r_202.1))), (mJ, .inl (cI, 4, .inl (k4i u_r_202.2.1 u_r_202.2.2.1 u_r_202.2.2.2.1 u_r_202.2.2.2.2.1))), (mS, .inl (cI, 4, .inl (k4i u_r_202.2.2.2.2.2.1 u_r_202.2.2.2.2.2.2.1 u_r_202.2.2.2.2.2.2.2.1 u_r_202.2.2.2.2.2.2.2.2)))] H := hP
            have hD : va_D A [(mD, .inl (cL, 256, .inr (.inl fD))), (mH, .inl (cI, 512, .inl fH)), (m0, .inr (8, [.ref mH, .int aM, .long aC, .int mM, .long mQ, .int oV, .int pL, .int lI, .int sW, .int dP, .int sT, .long aT, .int 10, .int 1, .ref mI, .ref mJ, .ref mS, .ref mD, .int iH, .int aE, .int mN, .long sZ, .ref mX, .int tS, .int tA, .int tW, .ref mA, .ref mB, .ref mW, .ref mL, .int lS])), (mI, .inl (cL, 1200, .inr (.inl u_r_202.1))), (mJ, .inl (cI, 4, .inl (k4i u_r_202.2.1 u_r_202.2.2.1 u_r_202.2.2.2.1 u_r_202.2.2.2.2.1))), (mS, .inl (cI, 4, .inl (k4i u_r_202.2.2.2.2.2.1 u_r_202.2.2.2.2.2.2.1 u_r_202.2.2.2.2.2.2.2.1 u_r_202.2.2.2.2.2.2.2.2)))] := hD
            refine lv_iconst (v := 0) hx hb dX8_copies_107 (by decide) ?_
            refine kIret (u := (pL, dP, 10, 1, fH, fD, u_r_202.1, u_r_202.2.1, u_r_202.2.2.1, u_r_202.2.2.2.1, u_r_202.2.2.2.2.1, u_r_202.2.2.2.2.2.1, u_r_202.2.2.2.2.2.2.1, u_r_202.2.2.2.2.2.2.2.1, u_r_202.2.2.2.2.2.2.2.2)) hx hb hr rfl hlocks hS dX8_copies_108 ?_ (hP.sub [2, 1, 3, 4, 5, 0] rfl) (hD.sub [2, 1, 3, 4, 5, 0] (by decide) rfl)
            try dsimp only
            repeat' (with_reducible apply And.intro)
            all_goals first | with_reducible assumption | ((try simp only [jT_, jP_, jD_, jC_, jB_, jW_, Int32.reduceToInt, Int64.reduceToInt, true_or, or_true, true_and, and_true]) <;> omega)
          · have t_97_202 := c_97_202
            try simp only [kb_eq0, kb_ne0, lg_cmp_lt, lg_cmp_le, lg_cmp_gt, lg_cmp_ge, lg_cmp_eq] at t_97_202
            try simp only [Int32.lt_iff_toInt_lt, Int32.le_iff_toInt_le, ← Int32.toInt_inj, Int64.lt_iff_toInt_lt, Int64.le_iff_toInt_le, ← Int64.toInt_inj, Int32.toInt_toInt64, Int32.reduceToInt, Int64.reduceToInt] at t_97_202
            refine lv_iconst (v := 5) hx hb dX8_copies_100 (by decide) ?_
            refine kIret (u := (pL, dP, 10, iW, fH, fD, u_r_202.1, u_r_202.2.1, u_r_202.2.2.1, u_r_202.2.2.2.1, u_r_202.2.2.2.2.1, u_r_202.2.2.2.2.2.1, u_r_202.2.2.2.2.2.2.1, u_r_202.2.2.2.2.2.2.2.1, u_r_202.2.2.2.2.2.2.2.2)) hx hb hr rfl hlocks hS dX8_copies_101 ?_ (hP.sub [2, 1, 3, 4, 5, 0] rfl) (hD.sub [2, 1, 3, 4, 5, 0] (by decide) rfl)
            try dsimp only
            repeat' (with_reducible apply And.intro)
            all_goals first | with_reducible assumption | ((try simp only [jT_, jP_, jD_, jC_, jB_, jW_, Int32.reduceToInt, Int64.reduceToInt, true_or, or_true, true_and, and_true]) <;> omega)
      · exact absurd (by decide) c_16_197
    · exact absurd c_4_196 (by decide)
  · refine lv_aload_n hx hb dX8_copies_0 rfl (lv_at hl 0 rfl) ?_
    refine va_get (D := D) (ci := 8) (v := .int 11) (C := RX8) (T := TX8) (N := 31) hx hb hts iX8_copies_X8 hown hK hP 0 rfl rfl 12 (by decide) (hts (.fieldLink RX8 43 "TapeCalculatorModel" "chosen" "I") (List.mem_of_getElem? (i := 1) rfl)) (fun _ h9 => h9) rfl dX8_copies_1 ?_
    refine lv_if_ne (tgt := 10) hx hb dX8_copies_4 (by decide) (fun c_4_203 => ?_) (fun c_4_203 => ?_)
    · have t_4_203 := c_4_203
      try simp only [kb_eq0, kb_ne0, lg_cmp_lt, lg_cmp_le, lg_cmp_gt, lg_cmp_ge, lg_cmp_eq] at t_4_203
      try simp only [Int32.lt_iff_toInt_lt, Int32.le_iff_toInt_le, ← Int32.toInt_inj, Int64.lt_iff_toInt_lt, Int64.le_iff_toInt_le, ← Int64.toInt_inj, Int32.toInt_toInt64, Int32.reduceToInt, Int64.reduceToInt] at t_4_203
      refine lv_aload_n hx hb dX8_copies_10 rfl (lv_at hl 0 rfl) ?_
      refine va_get (D := D) (ci := 8) (v := .int 11) (C := RX8) (T := TX8) (N := 31) hx hb hts iX8_copies_X8 hown hK hP 0 rfl rfl 12 (by decide) (hts (.fieldLink RX8 43 "TapeCalculatorModel" "chosen" "I") (List.mem_of_getElem? (i := 1) rfl)) (fun _ h9 => h9) rfl dX8_copies_11 ?_
      refine lv_bipush (v := 12) hx hb dX8_copies_14 (by decide) ?_
      refine lv_icmp_le (tgt := 73) hx hb dX8_copies_16 (by decide) (fun c_16_204 => ?_) (fun c_16_204 => ?_)
      · have t_16_204 := c_16_204
        try simp only [kb_eq0, kb_ne0, lg_cmp_lt, lg_cmp_le, lg_cmp_gt, lg_cmp_ge, lg_cmp_eq] at t_16_204
        try simp only [Int32.lt_iff_toInt_lt, Int32.le_iff_toInt_le, ← Int32.toInt_inj, Int64.lt_iff_toInt_lt, Int64.le_iff_toInt_le, ← Int64.toInt_inj, Int32.toInt_toInt64, Int32.reduceToInt, Int64.reduceToInt] at t_16_204
        refine lv_aload_n hx hb dX8_copies_73 rfl (lv_at hl 0 rfl) ?_
        refine va_get (D := D) (ci := 8) (v := .int 11) (C := RX8) (T := TX8) (N := 31) hx hb hts iX8_copies_X8 hown hK hP 0 rfl rfl 12 (by decide) (hts (.fieldLink RX8 43 "TapeCalculatorModel" "chosen" "I") (List.mem_of_getElem? (i := 1) rfl)) (fun _ h9 => h9) rfl dX8_copies_74 ?_
        refine lv_bipush (v := 8) hx hb dX8_copies_77 (by decide) ?_
        refine lv_icmp_le (tgt := 109) hx hb dX8_copies_79 (by decide) (fun c_79_205 => ?_) (fun c_79_205 => ?_)
        · exact absurd c_79_205 (by decide)
        · have t_79_205 := c_79_205
          try simp only [kb_eq0, kb_ne0, lg_cmp_lt, lg_cmp_le, lg_cmp_gt, lg_cmp_ge, lg_cmp_eq] at t_79_205
          try simp only [Int32.lt_iff_toInt_lt, Int32.le_iff_toInt_le, ← Int32.toInt_inj, Int64.lt_iff_toInt_lt, Int64.le_iff_toInt_le, ← Int64.toInt_inj, Int32.toInt_toInt64, Int32.reduceToInt, Int64.reduceToInt] at t_79_205
          refine lv_aload_n hx hb dX8_copies_82 rfl (lv_at hl 0 rfl) ?_
          refine lv_aload_n hx hb dX8_copies_83 rfl (lv_at hl 0 rfl) ?_
          refine va_get (D := D) (ci := 8) (v := .int 11) (C := RX8) (T := TX8) (N := 31) hx hb hts iX8_copies_X8 hown hK hP 0 rfl rfl 12 (by decide) (hts (.fieldLink RX8 43 "TapeCalculatorModel" "chosen" "I") (List.mem_of_getElem? (i := 1) rfl)) (fun _ h9 => h9) rfl dX8_copies_84 ?_
          refine lv_bipush (v := 9) hx hb dX8_copies_87 (by decide) ?_
          refine lv_isub hx hb dX8_copies_89 ?_
          refine lv_topi (fun x_207 ex_207 => ?_)
          obtain rfl : x_207 = 2 := ex_207.trans (by decide)
          refine lv_aload_n hx hb dX8_copies_90 rfl (lv_at hl 0 rfl) ?_
          refine kCallL (wr := [(mI, .inl (cL, 1200, .inr (.inl fI))), (mJ, .inl (cI, 4, .inl (k4i j0 j1 j2 j3))), (mS, .inl (cI, 4, .inl (k4i s0 s1 s2 s3))), (mD, .inl (cL, 256, .inr (.inl fD)))]) (va_runV (As := []) (rest := [.int 2, .ref m0]) ⟨hx, hb, hml, hown, hts⟩ (q_operandBits l D cI cL cB cZ cT _ m0 mH mI mJ mS mD mX mA mB mW mL aM aC mM mQ oV pL lI sW dP sT aT 11 iW iH aE mN sZ tS tA tW lS fH (by omega)) (cwV 0 hts gX8_copies_X8_operandBits rfl rfl rfl (by decide +kernel) ⟨Nat.le_of_ble_eq_true rfl, Nat.le_of_ble_eq_true rfl⟩) (kPreV hG hP hD [0, 1] rfl (by decide) 0 8 rfl rfl rfl) rfl rfl hl.1 rfl (lv_room (Nat.le_of_ble_eq_true rfl)) dX8_copies_91 ⟨Nat.le_of_ble_eq_true rfl, Nat.le_of_ble_eq_true rfl⟩) hA hP hD hS [0, 1] [2, 3, 4, 5] rfl rfl (by decide) (by decide) (fun r_208 u_r_208 H locs wr_208 hP hD hS => ?_)
          have hP : va_P D vwCl [(mI, .inl (cL, 1200, .inr (.inl fI))), (mJ, .inl (cI, 4, .inl (k4i j0 j1 j2 j3))), (mS, .inl (cI, 4, .inl (k4i s0 s1 s2 s3))), (mD, .inl (cL, 256, .inr (.inl fD))), (m0, .inr (8, [.ref mH, .int aM, .long aC, .int mM, .long mQ, .int oV, .int pL, .int lI, .int sW, .int dP, .int sT, .long aT, .int 11, .int iW, .ref mI, .ref mJ, .ref mS, .ref mD, .int iH, .int aE, .int mN, .long sZ, .ref mX, .int tS, .int tA, .int tW, .ref mA, .ref mB, .ref mW, .ref mL, .int lS])), (mH, .inl (cI, 512, .inl fH))] H := hP
          have hD : va_D A [(mI, .inl (cL, 1200, .inr (.inl fI))), (mJ, .inl (cI, 4, .inl (k4i j0 j1 j2 j3))), (mS, .inl (cI, 4, .inl (k4i s0 s1 s2 s3))), (mD, .inl (cL, 256, .inr (.inl fD))), (m0, .inr (8, [.ref mH, .int aM, .long aC, .int mM, .long mQ, .int oV, .int pL, .int lI, .int sW, .int dP, .int sT, .long aT, .int 11, .int iW, .ref mI, .ref mJ, .ref mS, .ref mD, .int iH, .int aE, .int mN, .long sZ, .ref mX, .int tS, .int tA, .int tW, .ref mA, .ref mB, .ref mW, .ref mL, .int lS])), (mH, .inl (cI, 512, .inl fH))] := hD
          try dsimp only at wr_208
          try simp only [Int32.reduceToInt, Int64.reduceToInt] at wr_208
          refine kCallI (wr := [(mD, .inl (cL, 256, .inr (.inl fD))), (mH, .inl (cI, 512, .inl fH))]) (va_runV (As := [.int 2, .long r_208]) (rest := []) ⟨hx, hb, hml, hown, hts⟩ (q_puts l D cI cL cB cZ cT _ m0 mH mI mJ mS mD mX mA mB mW mL aM aC mM mQ oV pL lI sW dP sT aT 11 iW iH aE mN sZ tS tA tW lS fI j0 j1 j2 j3 s0 s1 s2 s3 2 r_208 (by first | with_reducible assumption | ((try simp only [jT_, jP_, jD_, jC_, jB_, jW_, Int32.reduceToInt, Int64.reduceToInt, true_or, or_true, true_and, and_true]) <;> omega)) (by first | with_reducible assumption | ((try simp only [jT_, jP_, jD_, jC_, jB_, jW_, Int32.reduceToInt, Int64.reduceToInt, true_or, or_true, true_and, and_true]) <;> omega)) (by first | with_reducible assumption | ((try simp only [jT_, jP_, jD_, jC_, jB_, jW_, Int32.reduceToInt, Int64.reduceToInt, true_or, or_true, true_and, and_true]) <;> omega)) (by first | with_reducible assumption | ((try simp only [jT_, jP_, jD_, jC_, jB_, jW_, Int32.reduceToInt, Int64.reduceToInt, true_or, or_true, true_and, and_true]) <;> omega)) (by decide)) (cwV 2 hts gX8_copies_X8_puts rfl rfl rfl (by decide +kernel) ⟨Nat.le_of_ble_eq_true rfl, Nat.le_of_ble_eq_true rfl⟩) (kPreV hG hP hD [4, 0, 1, 2] rfl (by decide) 0 8 rfl rfl rfl) rfl rfl hl.1 rfl (lv_room (Nat.le_of_ble_eq_true rfl)) dX8_copies_94 ⟨Nat.le_of_ble_eq_true rfl, Nat.le_of_ble_eq_true rfl⟩) hA hP hD hS [4, 0, 1, 2] [3, 5] rfl rfl (by decide) (by decide) (fun r_209 u_r_209 H locs wr_209 hP hD hS => ?_)
          have hP : va_P D vwCl [(mD, .inl (cL, 256, .inr (.inl fD))), (mH, .inl (cI, 512, .inl fH)), (m0, .inr (8, [.ref mH, .int aM, .long aC, .int mM, .long mQ, .int oV, .int pL, .int lI, .int sW, .int dP, .int sT, .long aT, .int 11, .int iW, .ref mI, .ref mJ, .ref mS, .ref mD, .int iH, .int aE, .int mN, .long sZ, .ref mX, .int tS, .int tA, .int tW, .ref mA, .ref mB, .ref mW, .ref mL, .int lS])), (mI, .inl (cL, 1200, .inr (.inl u_r_209.1))), (mJ, .inl (cI, 4, .inl (k4i u_r_209.2.1 u_r_209.2.2.1 u_r_209.2.2.2.1 u_r_209.2.2.2.2.1))), (mS, .inl (cI, 4, .inl (k4i u_r_209.2.2.2.2.2.1 u_r_209.2.2.2.2.2.2.1 u_r_209.2.2.2.2.2.2.2.1 u_r_209.2.2.2.2.2.2.2.2)))] H := hP
          have hD : va_D A [(mD, .inl (cL, 256, .inr (.inl fD))), (mH, .inl (cI, 512, .inl fH)), (m0, .inr (8, [.ref mH, .int aM, .long aC, .int mM, .long mQ, .int oV, .int pL, .int lI, .int sW, .int dP, .int sT, .long aT, .int 11, .int iW, .ref mI, .ref mJ, .ref mS, .ref mD, .int iH, .int aE, .int mN, .long sZ, .ref mX, .int tS, .int tA, .int tW, .ref mA, .ref mB, .ref mW, .ref mL, .int lS])), (mI, .inl (cL, 1200, .inr (.inl u_r_209.1))), (mJ, .inl (cI, 4, .inl (k4i u_r_209.2.1 u_r_209.2.2.1 u_r_209.2.2.2.1 u_r_209.2.2.2.2.1))), (mS, .inl (cI, 4, .inl (k4i u_r_209.2.2.2.2.2.1 u_r_209.2.2.2.2.2.2.1 u_r_209.2.2.2.2.2.2.2.1 u_r_209.2.2.2.2.2.2.2.2)))] := hD
          try dsimp only at wr_209
          try simp only [Int32.reduceToInt, Int64.reduceToInt] at wr_209
          obtain ⟨wr_209_0, wr_209_1, wr_209_2, wr_209_3, wr_209_4⟩ := wr_209
          refine lv_if_ne (tgt := 102) hx hb dX8_copies_97 (by decide) (fun c_97_209 => ?_) (fun c_97_209 => ?_)
          · have t_97_209 := c_97_209
            try simp only [kb_eq0, kb_ne0, lg_cmp_lt, lg_cmp_le, lg_cmp_gt, lg_cmp_ge, lg_cmp_eq] at t_97_209
            try simp only [Int32.lt_iff_toInt_lt, Int32.le_iff_toInt_le, ← Int32.toInt_inj, Int64.lt_iff_toInt_lt, Int64.le_iff_toInt_le, ← Int64.toInt_inj, Int32.toInt_toInt64, Int32.reduceToInt, Int64.reduceToInt] at t_97_209
            refine lv_aload_n hx hb dX8_copies_102 rfl (lv_at hl 0 rfl) ?_
            refine lv_iconst (v := 1) hx hb dX8_copies_103 (by decide) ?_
            refine va_put (D := D) (ci := 8) (v := .int 1) (ty := .boolean) (C := RX8) (T := TX8) (N := 31) hx hb hts iX8_copies_X8 tyX8 tyX8_ok nmX8 hown hK hP hD hS 2 rfl rfl 13 (by decide) (hts (.fieldLink RX8 115 "TapeCalculatorModel" "isWritten" "Z") (List.mem_of_getElem? (i := 4) rfl)) (fun _ h9 => h9) rfl (by decide +kernel) rfl rfl (Nat.le_of_ble_eq_true rfl) dX8_copies_104 (fun H locs hP hD hS => ?_)
            have hP : va_P D vwCl [(mD, .inl (cL, 256, .inr (.inl fD))), (mH, .inl (cI, 512, .inl fH)), (m0, .inr (8, [.ref mH, .int aM, .long aC, .int mM, .long mQ, .int oV, .int pL, .int lI, .int sW, .int dP, .int sT, .long aT, .int 11, .int 1, .ref mI, .ref mJ, .ref mS, .ref mD, .int iH, .int aE, .int mN, .long sZ, .ref mX, .int tS, .int tA, .int tW, .ref mA, .ref mB, .ref mW, .ref mL, .int lS])), (mI, .inl (cL, 1200, .inr (.inl u_r_209.1))), (mJ, .inl (cI, 4, .inl (k4i u_r_209.2.1 u_r_209.2.2.1 u_r_209.2.2.2.1 u_r_209.2.2.2.2.1))), (mS, .inl (cI, 4, .inl (k4i u_r_209.2.2.2.2.2.1 u_r_209.2.2.2.2.2.2.1 u_r_209.2.2.2.2.2.2.2.1 u_r_209.2.2.2.2.2.2.2.2)))] H := hP
            have hD : va_D A [(mD, .inl (cL, 256, .inr (.inl fD))), (mH, .inl (cI, 512, .inl fH)), (m0, .inr (8, [.ref mH, .int aM, .long aC, .int mM, .long mQ, .int oV, .int pL, .int lI, .int sW, .int dP, .int sT, .long aT, .int 11, .int 1, .ref mI, .ref mJ, .ref mS, .ref mD, .int iH, .int aE, .int mN, .long sZ, .ref mX, .int tS, .int tA, .int tW, .ref mA, .ref mB, .ref mW, .ref mL, .int lS])), (mI, .inl (cL, 1200, .inr (.inl u_r_209.1))), (mJ, .inl (cI, 4, .inl (k4i u_r_209.2.1 u_r_209.2.2.1 u_r_209.2.2.2.1 u_r_209.2.2.2.2.1))), (mS, .inl (cI, 4, .inl (k4i u_r_209.2.2.2.2.2.1 u_r_209.2.2.2.2.2.2.1 u_r_209.2.2.2.2.2.2.2.1 u_r_209.2.2.2.2.2.2.2.2)))] := hD
            refine lv_iconst (v := 0) hx hb dX8_copies_107 (by decide) ?_
            refine kIret (u := (pL, dP, 11, 1, fH, fD, u_r_209.1, u_r_209.2.1, u_r_209.2.2.1, u_r_209.2.2.2.1, u_r_209.2.2.2.2.1, u_r_209.2.2.2.2.2.1, u_r_209.2.2.2.2.2.2.1, u_r_209.2.2.2.2.2.2.2.1, u_r_209.2.2.2.2.2.2.2.2)) hx hb hr rfl hlocks hS dX8_copies_108 ?_ (hP.sub [2, 1, 3, 4, 5, 0] rfl) (hD.sub [2, 1, 3, 4, 5, 0] (by decide) rfl)
            try dsimp only
            repeat' (with_reducible apply And.intro)
            all_goals first | with_reducible assumption | ((try simp only [jT_, jP_, jD_, jC_, jB_, jW_, Int32.reduceToInt, Int64.reduceToInt, true_or, or_true, true_and, and_true]) <;> omega)
          · have t_97_209 := c_97_209
            try simp only [kb_eq0, kb_ne0, lg_cmp_lt, lg_cmp_le, lg_cmp_gt, lg_cmp_ge, lg_cmp_eq] at t_97_209
            try simp only [Int32.lt_iff_toInt_lt, Int32.le_iff_toInt_le, ← Int32.toInt_inj, Int64.lt_iff_toInt_lt, Int64.le_iff_toInt_le, ← Int64.toInt_inj, Int32.toInt_toInt64, Int32.reduceToInt, Int64.reduceToInt] at t_97_209
            refine lv_iconst (v := 5) hx hb dX8_copies_100 (by decide) ?_
            refine kIret (u := (pL, dP, 11, iW, fH, fD, u_r_209.1, u_r_209.2.1, u_r_209.2.2.1, u_r_209.2.2.2.1, u_r_209.2.2.2.2.1, u_r_209.2.2.2.2.2.1, u_r_209.2.2.2.2.2.2.1, u_r_209.2.2.2.2.2.2.2.1, u_r_209.2.2.2.2.2.2.2.2)) hx hb hr rfl hlocks hS dX8_copies_101 ?_ (hP.sub [2, 1, 3, 4, 5, 0] rfl) (hD.sub [2, 1, 3, 4, 5, 0] (by decide) rfl)
            try dsimp only
            repeat' (with_reducible apply And.intro)
            all_goals first | with_reducible assumption | ((try simp only [jT_, jP_, jD_, jC_, jB_, jW_, Int32.reduceToInt, Int64.reduceToInt, true_or, or_true, true_and, and_true]) <;> omega)
      · exact absurd (by decide) c_16_204
    · exact absurd c_4_203 (by decide)
  · refine lv_aload_n hx hb dX8_copies_0 rfl (lv_at hl 0 rfl) ?_
    refine va_get (D := D) (ci := 8) (v := .int 12) (C := RX8) (T := TX8) (N := 31) hx hb hts iX8_copies_X8 hown hK hP 0 rfl rfl 12 (by decide) (hts (.fieldLink RX8 43 "TapeCalculatorModel" "chosen" "I") (List.mem_of_getElem? (i := 1) rfl)) (fun _ h9 => h9) rfl dX8_copies_1 ?_
    refine lv_if_ne (tgt := 10) hx hb dX8_copies_4 (by decide) (fun c_4_210 => ?_) (fun c_4_210 => ?_)
    · have t_4_210 := c_4_210
      try simp only [kb_eq0, kb_ne0, lg_cmp_lt, lg_cmp_le, lg_cmp_gt, lg_cmp_ge, lg_cmp_eq] at t_4_210
      try simp only [Int32.lt_iff_toInt_lt, Int32.le_iff_toInt_le, ← Int32.toInt_inj, Int64.lt_iff_toInt_lt, Int64.le_iff_toInt_le, ← Int64.toInt_inj, Int32.toInt_toInt64, Int32.reduceToInt, Int64.reduceToInt] at t_4_210
      refine lv_aload_n hx hb dX8_copies_10 rfl (lv_at hl 0 rfl) ?_
      refine va_get (D := D) (ci := 8) (v := .int 12) (C := RX8) (T := TX8) (N := 31) hx hb hts iX8_copies_X8 hown hK hP 0 rfl rfl 12 (by decide) (hts (.fieldLink RX8 43 "TapeCalculatorModel" "chosen" "I") (List.mem_of_getElem? (i := 1) rfl)) (fun _ h9 => h9) rfl dX8_copies_11 ?_
      refine lv_bipush (v := 12) hx hb dX8_copies_14 (by decide) ?_
      refine lv_icmp_le (tgt := 73) hx hb dX8_copies_16 (by decide) (fun c_16_211 => ?_) (fun c_16_211 => ?_)
      · have t_16_211 := c_16_211
        try simp only [kb_eq0, kb_ne0, lg_cmp_lt, lg_cmp_le, lg_cmp_gt, lg_cmp_ge, lg_cmp_eq] at t_16_211
        try simp only [Int32.lt_iff_toInt_lt, Int32.le_iff_toInt_le, ← Int32.toInt_inj, Int64.lt_iff_toInt_lt, Int64.le_iff_toInt_le, ← Int64.toInt_inj, Int32.toInt_toInt64, Int32.reduceToInt, Int64.reduceToInt] at t_16_211
        refine lv_aload_n hx hb dX8_copies_73 rfl (lv_at hl 0 rfl) ?_
        refine va_get (D := D) (ci := 8) (v := .int 12) (C := RX8) (T := TX8) (N := 31) hx hb hts iX8_copies_X8 hown hK hP 0 rfl rfl 12 (by decide) (hts (.fieldLink RX8 43 "TapeCalculatorModel" "chosen" "I") (List.mem_of_getElem? (i := 1) rfl)) (fun _ h9 => h9) rfl dX8_copies_74 ?_
        refine lv_bipush (v := 8) hx hb dX8_copies_77 (by decide) ?_
        refine lv_icmp_le (tgt := 109) hx hb dX8_copies_79 (by decide) (fun c_79_212 => ?_) (fun c_79_212 => ?_)
        · exact absurd c_79_212 (by decide)
        · have t_79_212 := c_79_212
          try simp only [kb_eq0, kb_ne0, lg_cmp_lt, lg_cmp_le, lg_cmp_gt, lg_cmp_ge, lg_cmp_eq] at t_79_212
          try simp only [Int32.lt_iff_toInt_lt, Int32.le_iff_toInt_le, ← Int32.toInt_inj, Int64.lt_iff_toInt_lt, Int64.le_iff_toInt_le, ← Int64.toInt_inj, Int32.toInt_toInt64, Int32.reduceToInt, Int64.reduceToInt] at t_79_212
          refine lv_aload_n hx hb dX8_copies_82 rfl (lv_at hl 0 rfl) ?_
          refine lv_aload_n hx hb dX8_copies_83 rfl (lv_at hl 0 rfl) ?_
          refine va_get (D := D) (ci := 8) (v := .int 12) (C := RX8) (T := TX8) (N := 31) hx hb hts iX8_copies_X8 hown hK hP 0 rfl rfl 12 (by decide) (hts (.fieldLink RX8 43 "TapeCalculatorModel" "chosen" "I") (List.mem_of_getElem? (i := 1) rfl)) (fun _ h9 => h9) rfl dX8_copies_84 ?_
          refine lv_bipush (v := 9) hx hb dX8_copies_87 (by decide) ?_
          refine lv_isub hx hb dX8_copies_89 ?_
          refine lv_topi (fun x_214 ex_214 => ?_)
          obtain rfl : x_214 = 3 := ex_214.trans (by decide)
          refine lv_aload_n hx hb dX8_copies_90 rfl (lv_at hl 0 rfl) ?_
          refine kCallL (wr := [(mI, .inl (cL, 1200, .inr (.inl fI))), (mJ, .inl (cI, 4, .inl (k4i j0 j1 j2 j3))), (mS, .inl (cI, 4, .inl (k4i s0 s1 s2 s3))), (mD, .inl (cL, 256, .inr (.inl fD)))]) (va_runV (As := []) (rest := [.int 3, .ref m0]) ⟨hx, hb, hml, hown, hts⟩ (q_operandBits l D cI cL cB cZ cT _ m0 mH mI mJ mS mD mX mA mB mW mL aM aC mM mQ oV pL lI sW dP sT aT 12 iW iH aE mN sZ tS tA tW lS fH (by omega)) (cwV 0 hts gX8_copies_X8_operandBits rfl rfl rfl (by decide +kernel) ⟨Nat.le_of_ble_eq_true rfl, Nat.le_of_ble_eq_true rfl⟩) (kPreV hG hP hD [0, 1] rfl (by decide) 0 8 rfl rfl rfl) rfl rfl hl.1 rfl (lv_room (Nat.le_of_ble_eq_true rfl)) dX8_copies_91 ⟨Nat.le_of_ble_eq_true rfl, Nat.le_of_ble_eq_true rfl⟩) hA hP hD hS [0, 1] [2, 3, 4, 5] rfl rfl (by decide) (by decide) (fun r_215 u_r_215 H locs wr_215 hP hD hS => ?_)
          have hP : va_P D vwCl [(mI, .inl (cL, 1200, .inr (.inl fI))), (mJ, .inl (cI, 4, .inl (k4i j0 j1 j2 j3))), (mS, .inl (cI, 4, .inl (k4i s0 s1 s2 s3))), (mD, .inl (cL, 256, .inr (.inl fD))), (m0, .inr (8, [.ref mH, .int aM, .long aC, .int mM, .long mQ, .int oV, .int pL, .int lI, .int sW, .int dP, .int sT, .long aT, .int 12, .int iW, .ref mI, .ref mJ, .ref mS, .ref mD, .int iH, .int aE, .int mN, .long sZ, .ref mX, .int tS, .int tA, .int tW, .ref mA, .ref mB, .ref mW, .ref mL, .int lS])), (mH, .inl (cI, 512, .inl fH))] H := hP
          have hD : va_D A [(mI, .inl (cL, 1200, .inr (.inl fI))), (mJ, .inl (cI, 4, .inl (k4i j0 j1 j2 j3))), (mS, .inl (cI, 4, .inl (k4i s0 s1 s2 s3))), (mD, .inl (cL, 256, .inr (.inl fD))), (m0, .inr (8, [.ref mH, .int aM, .long aC, .int mM, .long mQ, .int oV, .int pL, .int lI, .int sW, .int dP, .int sT, .long aT, .int 12, .int iW, .ref mI, .ref mJ, .ref mS, .ref mD, .int iH, .int aE, .int mN, .long sZ, .ref mX, .int tS, .int tA, .int tW, .ref mA, .ref mB, .ref mW, .ref mL, .int lS])), (mH, .inl (cI, 512, .inl fH))] := hD
          try dsimp only at wr_215
          try simp only [Int32.reduceToInt, Int64.reduceToInt] at wr_215
          refine kCallI (wr := [(mD, .inl (cL, 256, .inr (.inl fD))), (mH, .inl (cI, 512, .inl fH))]) (va_runV (As := [.int 3, .long r_215]) (rest := []) ⟨hx, hb, hml, hown, hts⟩ (q_puts l D cI cL cB cZ cT _ m0 mH mI mJ mS mD mX mA mB mW mL aM aC mM mQ oV pL lI sW dP sT aT 12 iW iH aE mN sZ tS tA tW lS fI j0 j1 j2 j3 s0 s1 s2 s3 3 r_215 (by first | with_reducible assumption | ((try simp only [jT_, jP_, jD_, jC_, jB_, jW_, Int32.reduceToInt, Int64.reduceToInt, true_or, or_true, true_and, and_true]) <;> omega)) (by first | with_reducible assumption | ((try simp only [jT_, jP_, jD_, jC_, jB_, jW_, Int32.reduceToInt, Int64.reduceToInt, true_or, or_true, true_and, and_true]) <;> omega)) (by first | with_reducible assumption | ((try simp only [jT_, jP_, jD_, jC_, jB_, jW_, Int32.reduceToInt, Int64.reduceToInt, true_or, or_true, true_and, and_true]) <;> omega)) (by first | with_reducible assumption | ((try simp only [jT_, jP_, jD_, jC_, jB_, jW_, Int32.reduceToInt, Int64.reduceToInt, true_or, or_true, true_and, and_true]) <;> omega)) (by decide)) (cwV 2 hts gX8_copies_X8_puts rfl rfl rfl (by decide +kernel) ⟨Nat.le_of_ble_eq_true rfl, Nat.le_of_ble_eq_true rfl⟩) (kPreV hG hP hD [4, 0, 1, 2] rfl (by decide) 0 8 rfl rfl rfl) rfl rfl hl.1 rfl (lv_room (Nat.le_of_ble_eq_true rfl)) dX8_copies_94 ⟨Nat.le_of_ble_eq_true rfl, Nat.le_of_ble_eq_true rfl⟩) hA hP hD hS [4, 0, 1, 2] [3, 5] rfl rfl (by decide) (by decide) (fun r_216 u_r_216 H locs wr_216 hP hD hS => ?_)
          have hP : va_P D vwCl [(mD, .inl (cL, 256, .inr (.inl fD))), (mH, .inl (cI, 512, .inl fH)), (m0, .inr (8, [.ref mH, .int aM, .long aC, .int mM, .long mQ, .int oV, .int pL, .int lI, .int sW, .int dP, .int sT, .long aT, .int 12, .int iW, .ref mI, .ref mJ, .ref mS, .ref mD, .int iH, .int aE, .int mN, .long sZ, .ref mX, .int tS, .int tA, .int tW, .ref mA, .ref mB, .ref mW, .ref mL, .int lS])), (mI, .inl (cL, 1200, .inr (.inl u_r_216.1))), (mJ, .inl (cI, 4, .inl (k4i u_r_216.2.1 u_r_216.2.2.1 u_r_216.2.2.2.1 u_r_216.2.2.2.2.1))), (mS, .inl (cI, 4, .inl (k4i u_r_216.2.2.2.2.2.1 u_r_216.2.2.2.2.2.2.1 u_r_216.2.2.2.2.2.2.2.1 u_r_216.2.2.2.2.2.2.2.2)))] H := hP
          have hD : va_D A [(mD, .inl (cL, 256, .inr (.inl fD))), (mH, .inl (cI, 512, .inl fH)), (m0, .inr (8, [.ref mH, .int aM, .long aC, .int mM, .long mQ, .int oV, .int pL, .int lI, .int sW, .int dP, .int sT, .long aT, .int 12, .int iW, .ref mI, .ref mJ, .ref mS, .ref mD, .int iH, .int aE, .int mN, .long sZ, .ref mX, .int tS, .int tA, .int tW, .ref mA, .ref mB, .ref mW, .ref mL, .int lS])), (mI, .inl (cL, 1200, .inr (.inl u_r_216.1))), (mJ, .inl (cI, 4, .inl (k4i u_r_216.2.1 u_r_216.2.2.1 u_r_216.2.2.2.1 u_r_216.2.2.2.2.1))), (mS, .inl (cI, 4, .inl (k4i u_r_216.2.2.2.2.2.1 u_r_216.2.2.2.2.2.2.1 u_r_216.2.2.2.2.2.2.2.1 u_r_216.2.2.2.2.2.2.2.2)))] := hD
          try dsimp only at wr_216
          try simp only [Int32.reduceToInt, Int64.reduceToInt] at wr_216
          obtain ⟨wr_216_0, wr_216_1, wr_216_2, wr_216_3, wr_216_4⟩ := wr_216
          refine lv_if_ne (tgt := 102) hx hb dX8_copies_97 (by decide) (fun c_97_216 => ?_) (fun c_97_216 => ?_)
          · have t_97_216 := c_97_216
            try simp only [kb_eq0, kb_ne0, lg_cmp_lt, lg_cmp_le, lg_cmp_gt, lg_cmp_ge, lg_cmp_eq] at t_97_216
            try simp only [Int32.lt_iff_toInt_lt, Int32.le_iff_toInt_le, ← Int32.toInt_inj, Int64.lt_iff_toInt_lt, Int64.le_iff_toInt_le, ← Int64.toInt_inj, Int32.toInt_toInt64, Int32.reduceToInt, Int64.reduceToInt] at t_97_216
            refine lv_aload_n hx hb dX8_copies_102 rfl (lv_at hl 0 rfl) ?_
            refine lv_iconst (v := 1) hx hb dX8_copies_103 (by decide) ?_
            refine va_put (D := D) (ci := 8) (v := .int 1) (ty := .boolean) (C := RX8) (T := TX8) (N := 31) hx hb hts iX8_copies_X8 tyX8 tyX8_ok nmX8 hown hK hP hD hS 2 rfl rfl 13 (by decide) (hts (.fieldLink RX8 115 "TapeCalculatorModel" "isWritten" "Z") (List.mem_of_getElem? (i := 4) rfl)) (fun _ h9 => h9) rfl (by decide +kernel) rfl rfl (Nat.le_of_ble_eq_true rfl) dX8_copies_104 (fun H locs hP hD hS => ?_)
            have hP : va_P D vwCl [(mD, .inl (cL, 256, .inr (.inl fD))), (mH, .inl (cI, 512, .inl fH)), (m0, .inr (8, [.ref mH, .int aM, .long aC, .int mM, .long mQ, .int oV, .int pL, .int lI, .int sW, .int dP, .int sT, .long aT, .int 12, .int 1, .ref mI, .ref mJ, .ref mS, .ref mD, .int iH, .int aE, .int mN, .long sZ, .ref mX, .int tS, .int tA, .int tW, .ref mA, .ref mB, .ref mW, .ref mL, .int lS])), (mI, .inl (cL, 1200, .inr (.inl u_r_216.1))), (mJ, .inl (cI, 4, .inl (k4i u_r_216.2.1 u_r_216.2.2.1 u_r_216.2.2.2.1 u_r_216.2.2.2.2.1))), (mS, .inl (cI, 4, .inl (k4i u_r_216.2.2.2.2.2.1 u_r_216.2.2.2.2.2.2.1 u_r_216.2.2.2.2.2.2.2.1 u_r_216.2.2.2.2.2.2.2.2)))] H := hP
            have hD : va_D A [(mD, .inl (cL, 256, .inr (.inl fD))), (mH, .inl (cI, 512, .inl fH)), (m0, .inr (8, [.ref mH, .int aM, .long aC, .int mM, .long mQ, .int oV, .int pL, .int lI, .int sW, .int dP, .int sT, .long aT, .int 12, .int 1, .ref mI, .ref mJ, .ref mS, .ref mD, .int iH, .int aE, .int mN, .long sZ, .ref mX, .int tS, .int tA, .int tW, .ref mA, .ref mB, .ref mW, .ref mL, .int lS])), (mI, .inl (cL, 1200, .inr (.inl u_r_216.1))), (mJ, .inl (cI, 4, .inl (k4i u_r_216.2.1 u_r_216.2.2.1 u_r_216.2.2.2.1 u_r_216.2.2.2.2.1))), (mS, .inl (cI, 4, .inl (k4i u_r_216.2.2.2.2.2.1 u_r_216.2.2.2.2.2.2.1 u_r_216.2.2.2.2.2.2.2.1 u_r_216.2.2.2.2.2.2.2.2)))] := hD
            refine lv_iconst (v := 0) hx hb dX8_copies_107 (by decide) ?_
            refine kIret (u := (pL, dP, 12, 1, fH, fD, u_r_216.1, u_r_216.2.1, u_r_216.2.2.1, u_r_216.2.2.2.1, u_r_216.2.2.2.2.1, u_r_216.2.2.2.2.2.1, u_r_216.2.2.2.2.2.2.1, u_r_216.2.2.2.2.2.2.2.1, u_r_216.2.2.2.2.2.2.2.2)) hx hb hr rfl hlocks hS dX8_copies_108 ?_ (hP.sub [2, 1, 3, 4, 5, 0] rfl) (hD.sub [2, 1, 3, 4, 5, 0] (by decide) rfl)
            try dsimp only
            repeat' (with_reducible apply And.intro)
            all_goals first | with_reducible assumption | ((try simp only [jT_, jP_, jD_, jC_, jB_, jW_, Int32.reduceToInt, Int64.reduceToInt, true_or, or_true, true_and, and_true]) <;> omega)
          · have t_97_216 := c_97_216
            try simp only [kb_eq0, kb_ne0, lg_cmp_lt, lg_cmp_le, lg_cmp_gt, lg_cmp_ge, lg_cmp_eq] at t_97_216
            try simp only [Int32.lt_iff_toInt_lt, Int32.le_iff_toInt_le, ← Int32.toInt_inj, Int64.lt_iff_toInt_lt, Int64.le_iff_toInt_le, ← Int64.toInt_inj, Int32.toInt_toInt64, Int32.reduceToInt, Int64.reduceToInt] at t_97_216
            refine lv_iconst (v := 5) hx hb dX8_copies_100 (by decide) ?_
            refine kIret (u := (pL, dP, 12, iW, fH, fD, u_r_216.1, u_r_216.2.1, u_r_216.2.2.1, u_r_216.2.2.2.1, u_r_216.2.2.2.2.1, u_r_216.2.2.2.2.2.1, u_r_216.2.2.2.2.2.2.1, u_r_216.2.2.2.2.2.2.2.1, u_r_216.2.2.2.2.2.2.2.2)) hx hb hr rfl hlocks hS dX8_copies_101 ?_ (hP.sub [2, 1, 3, 4, 5, 0] rfl) (hD.sub [2, 1, 3, 4, 5, 0] (by decide) rfl)
            try dsimp only
            repeat' (with_reducible apply And.intro)
            all_goals first | with_reducible assumption | ((try simp only [jT_, jP_, jD_, jC_, jB_, jW_, Int32.reduceToInt, Int64.reduceToInt, true_or, or_true, true_and, and_true]) <;> omega)
      · exact absurd (by decide) c_16_211
    · exact absurd c_4_210 (by decide)
  · have hk8 := k_and (x := dP + 1) (m := 255) 8 (by decide) (by decide)
    have hdp0 : 0 ≤ dP.toInt ∧ dP.toInt ≤ 255 := hdp
    refine lv_aload_n hx hb dX8_copies_0 rfl (lv_at hl 0 rfl) ?_
    refine va_get (D := D) (ci := 8) (v := .int 13) (C := RX8) (T := TX8) (N := 31) hx hb hts iX8_copies_X8 hown hK hP 0 rfl rfl 12 (by decide) (hts (.fieldLink RX8 43 "TapeCalculatorModel" "chosen" "I") (List.mem_of_getElem? (i := 1) rfl)) (fun _ h9 => h9) rfl dX8_copies_1 ?_
    refine lv_if_ne (tgt := 10) hx hb dX8_copies_4 (by decide) (fun c_4_217 => ?_) (fun c_4_217 => ?_)
    · have t_4_217 := c_4_217
      try simp only [kb_eq0, kb_ne0, lg_cmp_lt, lg_cmp_le, lg_cmp_gt, lg_cmp_ge, lg_cmp_eq] at t_4_217
      try simp only [Int32.lt_iff_toInt_lt, Int32.le_iff_toInt_le, ← Int32.toInt_inj, Int64.lt_iff_toInt_lt, Int64.le_iff_toInt_le, ← Int64.toInt_inj, Int32.toInt_toInt64, Int32.reduceToInt, Int64.reduceToInt] at t_4_217
      refine lv_aload_n hx hb dX8_copies_10 rfl (lv_at hl 0 rfl) ?_
      refine va_get (D := D) (ci := 8) (v := .int 13) (C := RX8) (T := TX8) (N := 31) hx hb hts iX8_copies_X8 hown hK hP 0 rfl rfl 12 (by decide) (hts (.fieldLink RX8 43 "TapeCalculatorModel" "chosen" "I") (List.mem_of_getElem? (i := 1) rfl)) (fun _ h9 => h9) rfl dX8_copies_11 ?_
      refine lv_bipush (v := 12) hx hb dX8_copies_14 (by decide) ?_
      refine lv_icmp_le (tgt := 73) hx hb dX8_copies_16 (by decide) (fun c_16_218 => ?_) (fun c_16_218 => ?_)
      · exact absurd c_16_218 (by decide)
      · have t_16_218 := c_16_218
        try simp only [kb_eq0, kb_ne0, lg_cmp_lt, lg_cmp_le, lg_cmp_gt, lg_cmp_ge, lg_cmp_eq] at t_16_218
        try simp only [Int32.lt_iff_toInt_lt, Int32.le_iff_toInt_le, ← Int32.toInt_inj, Int64.lt_iff_toInt_lt, Int64.le_iff_toInt_le, ← Int64.toInt_inj, Int32.toInt_toInt64, Int32.reduceToInt, Int64.reduceToInt] at t_16_218
        refine lv_aload_n hx hb dX8_copies_19 rfl (lv_at hl 0 rfl) ?_
        refine va_get (D := D) (ci := 8) (v := .int 13) (C := RX8) (T := TX8) (N := 31) hx hb hts iX8_copies_X8 hown hK hP 0 rfl rfl 12 (by decide) (hts (.fieldLink RX8 43 "TapeCalculatorModel" "chosen" "I") (List.mem_of_getElem? (i := 1) rfl)) (fun _ h9 => h9) rfl dX8_copies_20 ?_
        refine lv_bipush (v := 13) hx hb dX8_copies_23 (by decide) ?_
        refine lv_icmp_ne (tgt := 44) hx hb dX8_copies_25 (by decide) (fun c_25_219 => ?_) (fun c_25_219 => ?_)
        · exact absurd (by decide) c_25_219
        · have t_25_219 := c_25_219
          try simp only [kb_eq0, kb_ne0, lg_cmp_lt, lg_cmp_le, lg_cmp_gt, lg_cmp_ge, lg_cmp_eq] at t_25_219
          try simp only [Int32.lt_iff_toInt_lt, Int32.le_iff_toInt_le, ← Int32.toInt_inj, Int64.lt_iff_toInt_lt, Int64.le_iff_toInt_le, ← Int64.toInt_inj, Int32.toInt_toInt64, Int32.reduceToInt, Int64.reduceToInt] at t_25_219
          refine lv_aload_n hx hb dX8_copies_28 rfl (lv_at hl 0 rfl) ?_
          refine lv_aload_n hx hb dX8_copies_29 rfl (lv_at hl 0 rfl) ?_
          refine va_get (D := D) (ci := 8) (v := .ref mD) (C := RX8) (T := TX8) (N := 31) hx hb hts iX8_copies_X8 hown hK hP 0 rfl rfl 17 (by decide) (hts (.fieldLink RX8 23 "TapeCalculatorModel" "drum" "[J") (List.mem_of_getElem? (i := 2) rfl)) (fun _ h9 => h9) rfl dX8_copies_30 ?_
          refine lv_aload_n hx hb dX8_copies_33 rfl (lv_at hl 0 rfl) ?_
          refine va_get (D := D) (ci := 8) (v := .int dP) (C := RX8) (T := TX8) (N := 31) hx hb hts iX8_copies_X8 hown hK hP 0 rfl rfl 9 (by decide) (hts (.fieldLink RX8 84 "TapeCalculatorModel" "drumPlace" "I") (List.mem_of_getElem? (i := 3) rfl)) (fun _ h9 => h9) rfl dX8_copies_34 ?_
          refine va_lald hx hb hK hP 5 1 rfl rfl (vp_in_iff.mpr (by omega)) dX8_copies_37 ?_
          refine kCallVd (wr := [(mI, .inl (cL, 1200, .inr (.inl fI))), (mJ, .inl (cI, 4, .inl (k4i j0 j1 j2 j3))), (mS, .inl (cI, 4, .inl (k4i s0 s1 s2 s3))), (mD, .inl (cL, 256, .inr (.inl fD)))]) (va_runV (As := [.long (fD dP.toNatClampNeg)]) (rest := []) ⟨hx, hb, hml, hown, hts⟩ (q_store l D cI cL cB cZ cT _ m0 mH mI mJ mS mD mX mA mB mW mL aM aC mM mQ oV pL lI sW dP sT aT 13 iW iH aE mN sZ tS tA tW lS fH (fD dP.toNatClampNeg) (by omega)) (cwV 1 hts gX8_copies_X8_store rfl rfl rfl (by decide +kernel) ⟨Nat.le_of_ble_eq_true rfl, Nat.le_of_ble_eq_true rfl⟩) (kPreV hG hP hD [0, 1] rfl (by decide) 0 8 rfl rfl rfl) rfl rfl hl.1 rfl (lv_room (Nat.le_of_ble_eq_true rfl)) dX8_copies_38 ⟨Nat.le_of_ble_eq_true rfl, Nat.le_of_ble_eq_true rfl⟩) hA hP hD hS [0, 1] [2, 3, 4, 5] rfl rfl (by decide) (by decide) (fun _ u_r_221 H locs wr_221 hP hD hS => ?_)
          have hP : va_P D vwCl [(mI, .inl (cL, 1200, .inr (.inl fI))), (mJ, .inl (cI, 4, .inl (k4i j0 j1 j2 j3))), (mS, .inl (cI, 4, .inl (k4i s0 s1 s2 s3))), (mD, .inl (cL, 256, .inr (.inl fD))), (m0, .inr (8, [.ref mH, .int aM, .long aC, .int mM, .long mQ, .int oV, .int pL, .int lI, .int sW, .int dP, .int sT, .long aT, .int 13, .int iW, .ref mI, .ref mJ, .ref mS, .ref mD, .int iH, .int aE, .int mN, .long sZ, .ref mX, .int tS, .int tA, .int tW, .ref mA, .ref mB, .ref mW, .ref mL, .int lS])), (mH, .inl (cI, 512, .inl u_r_221))] H := hP
          have hD : va_D A [(mI, .inl (cL, 1200, .inr (.inl fI))), (mJ, .inl (cI, 4, .inl (k4i j0 j1 j2 j3))), (mS, .inl (cI, 4, .inl (k4i s0 s1 s2 s3))), (mD, .inl (cL, 256, .inr (.inl fD))), (m0, .inr (8, [.ref mH, .int aM, .long aC, .int mM, .long mQ, .int oV, .int pL, .int lI, .int sW, .int dP, .int sT, .long aT, .int 13, .int iW, .ref mI, .ref mJ, .ref mS, .ref mD, .int iH, .int aE, .int mN, .long sZ, .ref mX, .int tS, .int tA, .int tW, .ref mA, .ref mB, .ref mW, .ref mL, .int lS])), (mH, .inl (cI, 512, .inl u_r_221))] := hD
          try dsimp only at wr_221
          try simp only [Int32.reduceToInt, Int64.reduceToInt] at wr_221
          refine lv_goto (tgt := 57) hx hb dX8_copies_41 (by decide) ?_
          refine lv_aload_n hx hb dX8_copies_57 rfl (lv_at hl 0 rfl) ?_
          refine lv_aload_n hx hb dX8_copies_58 rfl (lv_at hl 0 rfl) ?_
          refine va_get (D := D) (ci := 8) (v := .int dP) (C := RX8) (T := TX8) (N := 31) hx hb hts iX8_copies_X8 hown hK hP 4 rfl rfl 9 (by decide) (hts (.fieldLink RX8 84 "TapeCalculatorModel" "drumPlace" "I") (List.mem_of_getElem? (i := 3) rfl)) (fun _ h9 => h9) rfl dX8_copies_59 ?_
          refine lv_iconst (v := 1) hx hb dX8_copies_62 (by decide) ?_
          refine lv_iadd hx hb dX8_copies_63 ?_
          refine lv_sipush (v := 255) hx hb dX8_copies_64 (by decide) ?_
          refine lv_iand hx hb dX8_copies_67 ?_
          refine lv_topi (fun x_222 ex_222 => ?_)
          refine va_put (D := D) (ci := 8) (v := .int x_222) (ty := .int) (C := RX8) (T := TX8) (N := 31) hx hb hts iX8_copies_X8 tyX8 tyX8_ok nmX8 hown hK hP hD hS 4 rfl rfl 9 (by decide) (hts (.fieldLink RX8 84 "TapeCalculatorModel" "drumPlace" "I") (List.mem_of_getElem? (i := 3) rfl)) (fun _ h9 => h9) rfl (by decide +kernel) rfl rfl (Nat.le_of_ble_eq_true rfl) dX8_copies_68 (fun H locs hP hD hS => ?_)
          have hP : va_P D vwCl [(mI, .inl (cL, 1200, .inr (.inl fI))), (mJ, .inl (cI, 4, .inl (k4i j0 j1 j2 j3))), (mS, .inl (cI, 4, .inl (k4i s0 s1 s2 s3))), (mD, .inl (cL, 256, .inr (.inl fD))), (m0, .inr (8, [.ref mH, .int aM, .long aC, .int mM, .long mQ, .int oV, .int pL, .int lI, .int sW, .int x_222, .int sT, .long aT, .int 13, .int iW, .ref mI, .ref mJ, .ref mS, .ref mD, .int iH, .int aE, .int mN, .long sZ, .ref mX, .int tS, .int tA, .int tW, .ref mA, .ref mB, .ref mW, .ref mL, .int lS])), (mH, .inl (cI, 512, .inl u_r_221))] H := hP
          have hD : va_D A [(mI, .inl (cL, 1200, .inr (.inl fI))), (mJ, .inl (cI, 4, .inl (k4i j0 j1 j2 j3))), (mS, .inl (cI, 4, .inl (k4i s0 s1 s2 s3))), (mD, .inl (cL, 256, .inr (.inl fD))), (m0, .inr (8, [.ref mH, .int aM, .long aC, .int mM, .long mQ, .int oV, .int pL, .int lI, .int sW, .int x_222, .int sT, .long aT, .int 13, .int iW, .ref mI, .ref mJ, .ref mS, .ref mD, .int iH, .int aE, .int mN, .long sZ, .ref mX, .int tS, .int tA, .int tW, .ref mA, .ref mB, .ref mW, .ref mL, .int lS])), (mH, .inl (cI, 512, .inl u_r_221))] := hD
          refine lv_iconst (v := 0) hx hb dX8_copies_71 (by decide) ?_
          refine kIret (u := (pL, x_222, 13, iW, u_r_221, fD, fI, j0, j1, j2, j3, s0, s1, s2, s3)) hx hb hr rfl hlocks hS dX8_copies_72 ?_ (hP.sub [4, 5, 0, 1, 2, 3] rfl) (hD.sub [4, 5, 0, 1, 2, 3] (by decide) rfl)
          try rw [← ex_222] at hk8
          try dsimp only
          repeat' (with_reducible apply And.intro)
          all_goals first | with_reducible assumption | ((try simp only [jT_, jP_, jD_, jC_, jB_, jW_, Int32.reduceToInt, Int64.reduceToInt, true_or, or_true, true_and, and_true]) <;> omega)
    · exact absurd c_4_217 (by decide)
  · have hk8 := k_and (x := dP + 1) (m := 255) 8 (by decide) (by decide)
    have hdp0 : 0 ≤ dP.toInt ∧ dP.toInt ≤ 255 := hdp
    refine lv_aload_n hx hb dX8_copies_0 rfl (lv_at hl 0 rfl) ?_
    refine va_get (D := D) (ci := 8) (v := .int 14) (C := RX8) (T := TX8) (N := 31) hx hb hts iX8_copies_X8 hown hK hP 0 rfl rfl 12 (by decide) (hts (.fieldLink RX8 43 "TapeCalculatorModel" "chosen" "I") (List.mem_of_getElem? (i := 1) rfl)) (fun _ h9 => h9) rfl dX8_copies_1 ?_
    refine lv_if_ne (tgt := 10) hx hb dX8_copies_4 (by decide) (fun c_4_222 => ?_) (fun c_4_222 => ?_)
    · have t_4_222 := c_4_222
      try simp only [kb_eq0, kb_ne0, lg_cmp_lt, lg_cmp_le, lg_cmp_gt, lg_cmp_ge, lg_cmp_eq] at t_4_222
      try simp only [Int32.lt_iff_toInt_lt, Int32.le_iff_toInt_le, ← Int32.toInt_inj, Int64.lt_iff_toInt_lt, Int64.le_iff_toInt_le, ← Int64.toInt_inj, Int32.toInt_toInt64, Int32.reduceToInt, Int64.reduceToInt] at t_4_222
      refine lv_aload_n hx hb dX8_copies_10 rfl (lv_at hl 0 rfl) ?_
      refine va_get (D := D) (ci := 8) (v := .int 14) (C := RX8) (T := TX8) (N := 31) hx hb hts iX8_copies_X8 hown hK hP 0 rfl rfl 12 (by decide) (hts (.fieldLink RX8 43 "TapeCalculatorModel" "chosen" "I") (List.mem_of_getElem? (i := 1) rfl)) (fun _ h9 => h9) rfl dX8_copies_11 ?_
      refine lv_bipush (v := 12) hx hb dX8_copies_14 (by decide) ?_
      refine lv_icmp_le (tgt := 73) hx hb dX8_copies_16 (by decide) (fun c_16_223 => ?_) (fun c_16_223 => ?_)
      · exact absurd c_16_223 (by decide)
      · have t_16_223 := c_16_223
        try simp only [kb_eq0, kb_ne0, lg_cmp_lt, lg_cmp_le, lg_cmp_gt, lg_cmp_ge, lg_cmp_eq] at t_16_223
        try simp only [Int32.lt_iff_toInt_lt, Int32.le_iff_toInt_le, ← Int32.toInt_inj, Int64.lt_iff_toInt_lt, Int64.le_iff_toInt_le, ← Int64.toInt_inj, Int32.toInt_toInt64, Int32.reduceToInt, Int64.reduceToInt] at t_16_223
        refine lv_aload_n hx hb dX8_copies_19 rfl (lv_at hl 0 rfl) ?_
        refine va_get (D := D) (ci := 8) (v := .int 14) (C := RX8) (T := TX8) (N := 31) hx hb hts iX8_copies_X8 hown hK hP 0 rfl rfl 12 (by decide) (hts (.fieldLink RX8 43 "TapeCalculatorModel" "chosen" "I") (List.mem_of_getElem? (i := 1) rfl)) (fun _ h9 => h9) rfl dX8_copies_20 ?_
        refine lv_bipush (v := 13) hx hb dX8_copies_23 (by decide) ?_
        refine lv_icmp_ne (tgt := 44) hx hb dX8_copies_25 (by decide) (fun c_25_224 => ?_) (fun c_25_224 => ?_)
        · have t_25_224 := c_25_224
          try simp only [kb_eq0, kb_ne0, lg_cmp_lt, lg_cmp_le, lg_cmp_gt, lg_cmp_ge, lg_cmp_eq] at t_25_224
          try simp only [Int32.lt_iff_toInt_lt, Int32.le_iff_toInt_le, ← Int32.toInt_inj, Int64.lt_iff_toInt_lt, Int64.le_iff_toInt_le, ← Int64.toInt_inj, Int32.toInt_toInt64, Int32.reduceToInt, Int64.reduceToInt] at t_25_224
          refine lv_aload_n hx hb dX8_copies_44 rfl (lv_at hl 0 rfl) ?_
          refine va_get (D := D) (ci := 8) (v := .ref mD) (C := RX8) (T := TX8) (N := 31) hx hb hts iX8_copies_X8 hown hK hP 0 rfl rfl 17 (by decide) (hts (.fieldLink RX8 23 "TapeCalculatorModel" "drum" "[J") (List.mem_of_getElem? (i := 2) rfl)) (fun _ h9 => h9) rfl dX8_copies_45 ?_
          refine lv_aload_n hx hb dX8_copies_48 rfl (lv_at hl 0 rfl) ?_
          refine va_get (D := D) (ci := 8) (v := .int dP) (C := RX8) (T := TX8) (N := 31) hx hb hts iX8_copies_X8 hown hK hP 0 rfl rfl 9 (by decide) (hts (.fieldLink RX8 84 "TapeCalculatorModel" "drumPlace" "I") (List.mem_of_getElem? (i := 3) rfl)) (fun _ h9 => h9) rfl dX8_copies_49 ?_
          refine lv_aload_n hx hb dX8_copies_52 rfl (lv_at hl 0 rfl) ?_
          refine kCallL (wr := [(mI, .inl (cL, 1200, .inr (.inl fI))), (mJ, .inl (cI, 4, .inl (k4i j0 j1 j2 j3))), (mS, .inl (cI, 4, .inl (k4i s0 s1 s2 s3))), (mD, .inl (cL, 256, .inr (.inl fD)))]) (va_runV (As := []) (rest := [.int dP, .ref mD]) ⟨hx, hb, hml, hown, hts⟩ (q_operandBits l D cI cL cB cZ cT _ m0 mH mI mJ mS mD mX mA mB mW mL aM aC mM mQ oV pL lI sW dP sT aT 14 iW iH aE mN sZ tS tA tW lS fH (by omega)) (cwV 0 hts gX8_copies_X8_operandBits rfl rfl rfl (by decide +kernel) ⟨Nat.le_of_ble_eq_true rfl, Nat.le_of_ble_eq_true rfl⟩) (kPreV hG hP hD [0, 1] rfl (by decide) 0 8 rfl rfl rfl) rfl rfl hl.1 rfl (lv_room (Nat.le_of_ble_eq_true rfl)) dX8_copies_53 ⟨Nat.le_of_ble_eq_true rfl, Nat.le_of_ble_eq_true rfl⟩) hA hP hD hS [0, 1] [2, 3, 4, 5] rfl rfl (by decide) (by decide) (fun r_226 u_r_226 H locs wr_226 hP hD hS => ?_)
          have hP : va_P D vwCl [(mI, .inl (cL, 1200, .inr (.inl fI))), (mJ, .inl (cI, 4, .inl (k4i j0 j1 j2 j3))), (mS, .inl (cI, 4, .inl (k4i s0 s1 s2 s3))), (mD, .inl (cL, 256, .inr (.inl fD))), (m0, .inr (8, [.ref mH, .int aM, .long aC, .int mM, .long mQ, .int oV, .int pL, .int lI, .int sW, .int dP, .int sT, .long aT, .int 14, .int iW, .ref mI, .ref mJ, .ref mS, .ref mD, .int iH, .int aE, .int mN, .long sZ, .ref mX, .int tS, .int tA, .int tW, .ref mA, .ref mB, .ref mW, .ref mL, .int lS])), (mH, .inl (cI, 512, .inl fH))] H := hP
          have hD : va_D A [(mI, .inl (cL, 1200, .inr (.inl fI))), (mJ, .inl (cI, 4, .inl (k4i j0 j1 j2 j3))), (mS, .inl (cI, 4, .inl (k4i s0 s1 s2 s3))), (mD, .inl (cL, 256, .inr (.inl fD))), (m0, .inr (8, [.ref mH, .int aM, .long aC, .int mM, .long mQ, .int oV, .int pL, .int lI, .int sW, .int dP, .int sT, .long aT, .int 14, .int iW, .ref mI, .ref mJ, .ref mS, .ref mD, .int iH, .int aE, .int mN, .long sZ, .ref mX, .int tS, .int tA, .int tW, .ref mA, .ref mB, .ref mW, .ref mL, .int lS])), (mH, .inl (cI, 512, .inl fH))] := hD
          try dsimp only at wr_226
          try simp only [Int32.reduceToInt, Int64.reduceToInt] at wr_226
          refine va_last hx hb hK hP hD hS 3 1 rfl rfl (vp_in_iff.mpr (by omega)) dX8_copies_56 (fun H locs hP hD hS => ?_)
          have hP : va_P D vwCl [(mI, .inl (cL, 1200, .inr (.inl fI))), (mJ, .inl (cI, 4, .inl (k4i j0 j1 j2 j3))), (mS, .inl (cI, 4, .inl (k4i s0 s1 s2 s3))), (mD, .inl (cL, 256, .inr (.inl (vp_updL fD dP.toNatClampNeg r_226)))), (m0, .inr (8, [.ref mH, .int aM, .long aC, .int mM, .long mQ, .int oV, .int pL, .int lI, .int sW, .int dP, .int sT, .long aT, .int 14, .int iW, .ref mI, .ref mJ, .ref mS, .ref mD, .int iH, .int aE, .int mN, .long sZ, .ref mX, .int tS, .int tA, .int tW, .ref mA, .ref mB, .ref mW, .ref mL, .int lS])), (mH, .inl (cI, 512, .inl fH))] H := hP
          have hD : va_D A [(mI, .inl (cL, 1200, .inr (.inl fI))), (mJ, .inl (cI, 4, .inl (k4i j0 j1 j2 j3))), (mS, .inl (cI, 4, .inl (k4i s0 s1 s2 s3))), (mD, .inl (cL, 256, .inr (.inl (vp_updL fD dP.toNatClampNeg r_226)))), (m0, .inr (8, [.ref mH, .int aM, .long aC, .int mM, .long mQ, .int oV, .int pL, .int lI, .int sW, .int dP, .int sT, .long aT, .int 14, .int iW, .ref mI, .ref mJ, .ref mS, .ref mD, .int iH, .int aE, .int mN, .long sZ, .ref mX, .int tS, .int tA, .int tW, .ref mA, .ref mB, .ref mW, .ref mL, .int lS])), (mH, .inl (cI, 512, .inl fH))] := hD
          refine lv_aload_n hx hb dX8_copies_57 rfl (lv_at hl 0 rfl) ?_
          refine lv_aload_n hx hb dX8_copies_58 rfl (lv_at hl 0 rfl) ?_
          refine va_get (D := D) (ci := 8) (v := .int dP) (C := RX8) (T := TX8) (N := 31) hx hb hts iX8_copies_X8 hown hK hP 4 rfl rfl 9 (by decide) (hts (.fieldLink RX8 84 "TapeCalculatorModel" "drumPlace" "I") (List.mem_of_getElem? (i := 3) rfl)) (fun _ h9 => h9) rfl dX8_copies_59 ?_
          refine lv_iconst (v := 1) hx hb dX8_copies_62 (by decide) ?_
          refine lv_iadd hx hb dX8_copies_63 ?_
          refine lv_sipush (v := 255) hx hb dX8_copies_64 (by decide) ?_
          refine lv_iand hx hb dX8_copies_67 ?_
          refine lv_topi (fun x_227 ex_227 => ?_)
          refine va_put (D := D) (ci := 8) (v := .int x_227) (ty := .int) (C := RX8) (T := TX8) (N := 31) hx hb hts iX8_copies_X8 tyX8 tyX8_ok nmX8 hown hK hP hD hS 4 rfl rfl 9 (by decide) (hts (.fieldLink RX8 84 "TapeCalculatorModel" "drumPlace" "I") (List.mem_of_getElem? (i := 3) rfl)) (fun _ h9 => h9) rfl (by decide +kernel) rfl rfl (Nat.le_of_ble_eq_true rfl) dX8_copies_68 (fun H locs hP hD hS => ?_)
          have hP : va_P D vwCl [(mI, .inl (cL, 1200, .inr (.inl fI))), (mJ, .inl (cI, 4, .inl (k4i j0 j1 j2 j3))), (mS, .inl (cI, 4, .inl (k4i s0 s1 s2 s3))), (mD, .inl (cL, 256, .inr (.inl (vp_updL fD dP.toNatClampNeg r_226)))), (m0, .inr (8, [.ref mH, .int aM, .long aC, .int mM, .long mQ, .int oV, .int pL, .int lI, .int sW, .int x_227, .int sT, .long aT, .int 14, .int iW, .ref mI, .ref mJ, .ref mS, .ref mD, .int iH, .int aE, .int mN, .long sZ, .ref mX, .int tS, .int tA, .int tW, .ref mA, .ref mB, .ref mW, .ref mL, .int lS])), (mH, .inl (cI, 512, .inl fH))] H := hP
          have hD : va_D A [(mI, .inl (cL, 1200, .inr (.inl fI))), (mJ, .inl (cI, 4, .inl (k4i j0 j1 j2 j3))), (mS, .inl (cI, 4, .inl (k4i s0 s1 s2 s3))), (mD, .inl (cL, 256, .inr (.inl (vp_updL fD dP.toNatClampNeg r_226)))), (m0, .inr (8, [.ref mH, .int aM, .long aC, .int mM, .long mQ, .int oV, .int pL, .int lI, .int sW, .int x_227, .int sT, .long aT, .int 14, .int iW, .ref mI, .ref mJ, .ref mS, .ref mD, .int iH, .int aE, .int mN, .long sZ, .ref mX, .int tS, .int tA, .int tW, .ref mA, .ref mB, .ref mW, .ref mL, .int lS])), (mH, .inl (cI, 512, .inl fH))] := hD
          refine lv_iconst (v := 0) hx hb dX8_copies_71 (by decide) ?_
          refine kIret (u := (pL, x_227, 14, iW, fH, (vp_updL fD dP.toNatClampNeg r_226), fI, j0, j1, j2, j3, s0, s1, s2, s3)) hx hb hr rfl hlocks hS dX8_copies_72 ?_ (hP.sub [4, 5, 0, 1, 2, 3] rfl) (hD.sub [4, 5, 0, 1, 2, 3] (by decide) rfl)
          try rw [← ex_227] at hk8
          try dsimp only
          repeat' (with_reducible apply And.intro)
          all_goals first | with_reducible assumption | ((try simp only [jT_, jP_, jD_, jC_, jB_, jW_, Int32.reduceToInt, Int64.reduceToInt, true_or, or_true, true_and, and_true]) <;> omega)
        · exact absurd c_25_224 (by decide)
    · exact absurd c_4_222 (by decide)
