set_option maxRecDepth 100000 in
set_option maxHeartbeats 4000000 in
theorem q_copies_5 (l : Launch) (D : va_G) (cI cL cB cZ cT : ClassId) (sz : Nat) (m0 mH mI mJ mS mD mX mA mB mW mL : Nat) (aM : Int32) (aC : Int64) (mM : Int32) (mQ : Int64) (oV pL lI sW dP sT : Int32) (aT : Int64) (iW iH aE mN : Int32) (sZ : Int64) (tS tA tW lS : Int32) (fH : Nat → Int32) (fI : Nat → Int64) (j0 j1 j2 j3 : Int32) (s0 s1 s2 s3 : Int32) (fD : Nat → Int64) (hpl : jP_ pL) (hdp : jD_ dP) (hch : jC_ 5) (hiw : jW_ iW 5) (ht0 : jT_ s0 j0) (ht1 : jT_ s1 j1) (ht2 : jT_ s2 j2) (ht3 : jT_ s3 j3) (had : 0 ≤ aE.toInt ∧ aE.toInt ≤ 511 ∧ (iH.toInt = 0 ∨ aE.toInt ≤ 510)) : kM (S := (Int32 × Int32 × Int32 × Int32 × (Nat → Int32) × (Nat → Int64) × (Nat → Int64) × Int32 × Int32 × Int32 × Int32 × Int32 × Int32 × Int32 × Int32)) l yX8_copies wsX8_copies ({ frames := 2, cells := 0, slots := 0, locals := 45 }) D (kT cI cL cB cZ cT) [.ref m0] [(m0, .inr (8, [.ref mH, .int aM, .long aC, .int mM, .long mQ, .int oV, .int pL, .int lI, .int sW, .int dP, .int sT, .long aT, .int 5, .int iW, .ref mI, .ref mJ, .ref mS, .ref mD, .int iH, .int aE, .int mN, .long sZ, .ref mX, .int tS, .int tA, .int tW, .ref mA, .ref mB, .ref mW, .ref mL, .int lS])), (mH, .inl (cI, 512, .inl fH)), (mI, .inl (cL, 1200, .inr (.inl fI))), (mJ, .inl (cI, 4, .inl (k4i j0 j1 j2 j3))), (mS, .inl (cI, 4, .inl (k4i s0 s1 s2 s3))), (mD, .inl (cL, 256, .inr (.inl fD)))] sz eI (fun r u => (0 ≤ r.toInt ∧ r.toInt ≤ 6) ∧ jP_ (u.1) ∧ jD_ (u.2.1) ∧ jC_ (u.2.2.1) ∧ jW_ (u.2.2.2.1) (u.2.2.1) ∧ jT_ (u.2.2.2.2.2.2.2.2.2.2.2.1) (u.2.2.2.2.2.2.2.1) ∧ jT_ (u.2.2.2.2.2.2.2.2.2.2.2.2.1) (u.2.2.2.2.2.2.2.2.1) ∧ jT_ (u.2.2.2.2.2.2.2.2.2.2.2.2.2.1) (u.2.2.2.2.2.2.2.2.2.1) ∧ jT_ (u.2.2.2.2.2.2.2.2.2.2.2.2.2.2) (u.2.2.2.2.2.2.2.2.2.2.1)) (fun u => [(m0, .inr (8, [.ref mH, .int aM, .long aC, .int mM, .long mQ, .int oV, .int u.1, .int lI, .int sW, .int u.2.1, .int sT, .long aT, .int u.2.2.1, .int u.2.2.2.1, .ref mI, .ref mJ, .ref mS, .ref mD, .int iH, .int aE, .int mN, .long sZ, .ref mX, .int tS, .int tA, .int tW, .ref mA, .ref mB, .ref mW, .ref mL, .int lS])), (mH, .inl (cI, 512, .inl u.2.2.2.2.1)), (mI, .inl (cL, 1200, .inr (.inl u.2.2.2.2.2.2.1))), (mJ, .inl (cI, 4, .inl (k4i u.2.2.2.2.2.2.2.1 u.2.2.2.2.2.2.2.2.1 u.2.2.2.2.2.2.2.2.2.1 u.2.2.2.2.2.2.2.2.2.2.1))), (mS, .inl (cI, 4, .inl (k4i u.2.2.2.2.2.2.2.2.2.2.2.1 u.2.2.2.2.2.2.2.2.2.2.2.2.1 u.2.2.2.2.2.2.2.2.2.2.2.2.2.1 u.2.2.2.2.2.2.2.2.2.2.2.2.2.2))), (mD, .inl (cL, 256, .inr (.inl u.2.2.2.2.2.1)))]) 0 0 := by
  refine kStart (cc := cX8_copies) (maxL := 6) (ret := (some .int)) (own := RX8) (by decide) rfl rfl (Nat.le_of_ble_eq_true rfl) ?_
  intro p e s m args below meth c A ls hx hb hr hml hown hts hlocks hnm hsz hA hG hP hD hS hl
  have hK := hG.1
  have hl : lv_has ls 6 [(0, .ref m0)] := hl
  have hiw1 : iW.toInt = 0 := by simp only [jW_, Int32.reduceToInt] at hiw; omega
  have hu0 : 0 ≤ s0.toInt ∧ s0.toInt ≤ j0.toInt ∧ j0.toInt ≤ 300 := ht0
  refine lv_aload_n hx hb dX8_copies_0 rfl (lv_at hl 0 rfl) ?_
  refine va_get (D := D) (ci := 8) (v := .int 5) (C := RX8) (T := TX8) (N := 31) hx hb hts iX8_copies_X8 hown hK hP 0 rfl rfl 12 (by decide) (hts (.fieldLink RX8 43 "TapeCalculatorModel" "chosen" "I") (List.mem_of_getElem? (i := 1) rfl)) (fun _ h9 => h9) rfl dX8_copies_1 ?_
  refine lv_if_ne (tgt := 10) hx hb dX8_copies_4 (by decide) (fun c_4_0 => ?_) (fun c_4_0 => ?_)
  · have t_4_0 := c_4_0
    try simp only [kb_eq0, kb_ne0, lg_cmp_lt, lg_cmp_le, lg_cmp_gt, lg_cmp_ge, lg_cmp_eq] at t_4_0
    try simp only [Int32.lt_iff_toInt_lt, Int32.le_iff_toInt_le, ← Int32.toInt_inj, Int64.lt_iff_toInt_lt, Int64.le_iff_toInt_le, ← Int64.toInt_inj, Int32.toInt_toInt64, Int32.reduceToInt, Int64.reduceToInt] at t_4_0
    refine lv_aload_n hx hb dX8_copies_10 rfl (lv_at hl 0 rfl) ?_
    refine va_get (D := D) (ci := 8) (v := .int 5) (C := RX8) (T := TX8) (N := 31) hx hb hts iX8_copies_X8 hown hK hP 0 rfl rfl 12 (by decide) (hts (.fieldLink RX8 43 "TapeCalculatorModel" "chosen" "I") (List.mem_of_getElem? (i := 1) rfl)) (fun _ h9 => h9) rfl dX8_copies_11 ?_
    refine lv_bipush (v := 12) hx hb dX8_copies_14 (by decide) ?_
    refine lv_icmp_le (tgt := 73) hx hb dX8_copies_16 (by decide) (fun c_16_1 => ?_) (fun c_16_1 => ?_)
    · have t_16_1 := c_16_1
      try simp only [kb_eq0, kb_ne0, lg_cmp_lt, lg_cmp_le, lg_cmp_gt, lg_cmp_ge, lg_cmp_eq] at t_16_1
      try simp only [Int32.lt_iff_toInt_lt, Int32.le_iff_toInt_le, ← Int32.toInt_inj, Int64.lt_iff_toInt_lt, Int64.le_iff_toInt_le, ← Int64.toInt_inj, Int32.toInt_toInt64, Int32.reduceToInt, Int64.reduceToInt] at t_16_1
      refine lv_aload_n hx hb dX8_copies_73 rfl (lv_at hl 0 rfl) ?_
      refine va_get (D := D) (ci := 8) (v := .int 5) (C := RX8) (T := TX8) (N := 31) hx hb hts iX8_copies_X8 hown hK hP 0 rfl rfl 12 (by decide) (hts (.fieldLink RX8 43 "TapeCalculatorModel" "chosen" "I") (List.mem_of_getElem? (i := 1) rfl)) (fun _ h9 => h9) rfl dX8_copies_74 ?_
      refine lv_bipush (v := 8) hx hb dX8_copies_77 (by decide) ?_
      refine lv_icmp_le (tgt := 109) hx hb dX8_copies_79 (by decide) (fun c_79_2 => ?_) (fun c_79_2 => ?_)
      · have t_79_2 := c_79_2
        try simp only [kb_eq0, kb_ne0, lg_cmp_lt, lg_cmp_le, lg_cmp_gt, lg_cmp_ge, lg_cmp_eq] at t_79_2
        try simp only [Int32.lt_iff_toInt_lt, Int32.le_iff_toInt_le, ← Int32.toInt_inj, Int64.lt_iff_toInt_lt, Int64.le_iff_toInt_le, ← Int64.toInt_inj, Int32.toInt_toInt64, Int32.reduceToInt, Int64.reduceToInt] at t_79_2
        refine lv_aload_n hx hb dX8_copies_109 rfl (lv_at hl 0 rfl) ?_
        refine va_get (D := D) (ci := 8) (v := .int 5) (C := RX8) (T := TX8) (N := 31) hx hb hts iX8_copies_X8 hown hK hP 0 rfl rfl 12 (by decide) (hts (.fieldLink RX8 43 "TapeCalculatorModel" "chosen" "I") (List.mem_of_getElem? (i := 1) rfl)) (fun _ h9 => h9) rfl dX8_copies_110 ?_
        refine lv_iconst (v := 4) hx hb dX8_copies_113 (by decide) ?_
        refine lv_icmp_le (tgt := 121) hx hb dX8_copies_114 (by decide) (fun c_114_3 => ?_) (fun c_114_3 => ?_)
        · exact absurd c_114_3 (by decide)
        · have t_114_3 := c_114_3
          try simp only [kb_eq0, kb_ne0, lg_cmp_lt, lg_cmp_le, lg_cmp_gt, lg_cmp_ge, lg_cmp_eq] at t_114_3
          try simp only [Int32.lt_iff_toInt_lt, Int32.le_iff_toInt_le, ← Int32.toInt_inj, Int64.lt_iff_toInt_lt, Int64.le_iff_toInt_le, ← Int64.toInt_inj, Int32.toInt_toInt64, Int32.reduceToInt, Int64.reduceToInt] at t_114_3
          refine lv_iconst (v := 1) hx hb dX8_copies_117 (by decide) ?_
          refine lv_goto (tgt := 122) hx hb dX8_copies_118 (by decide) ?_
          refine lv_istore_n (lv' := [(1, .int 1), (0, .ref m0)]) hx hb dX8_copies_122 rfl hl (by decide) rfl (fun ls hl => ?_)
          refine lv_iload_n hx hb dX8_copies_123 rfl (lv_at hl 0 rfl) ?_
          refine lv_if_eq (tgt := 136) hx hb dX8_copies_124 (by decide) (fun c_124_4 => ?_) (fun c_124_4 => ?_)
          · exact absurd c_124_4 (by decide)
          · have t_124_4 := c_124_4
            try simp only [kb_eq0, kb_ne0, lg_cmp_lt, lg_cmp_le, lg_cmp_gt, lg_cmp_ge, lg_cmp_eq] at t_124_4
            try simp only [Int32.lt_iff_toInt_lt, Int32.le_iff_toInt_le, ← Int32.toInt_inj, Int64.lt_iff_toInt_lt, Int64.le_iff_toInt_le, ← Int64.toInt_inj, Int32.toInt_toInt64, Int32.reduceToInt, Int64.reduceToInt] at t_124_4
            refine lv_aload_n hx hb dX8_copies_127 rfl (lv_at hl 1 rfl) ?_
            refine va_get (D := D) (ci := 8) (v := .int 5) (C := RX8) (T := TX8) (N := 31) hx hb hts iX8_copies_X8 hown hK hP 0 rfl rfl 12 (by decide) (hts (.fieldLink RX8 43 "TapeCalculatorModel" "chosen" "I") (List.mem_of_getElem? (i := 1) rfl)) (fun _ h9 => h9) rfl dX8_copies_128 ?_
            refine lv_iconst (v := 5) hx hb dX8_copies_131 (by decide) ?_
            refine lv_isub hx hb dX8_copies_132 ?_
            refine lv_topi (fun x_6 ex_6 => ?_)
            obtain rfl : x_6 = 0 := ex_6.trans (by decide)
            refine lv_goto (tgt := 142) hx hb dX8_copies_133 (by decide) ?_
            refine lv_istore_n (lv' := [(2, .int 0), (1, .int 1), (0, .ref m0)]) hx hb dX8_copies_142 rfl hl (by decide) rfl (fun ls hl => ?_)
            refine lv_iload_n hx hb dX8_copies_143 rfl (lv_at hl 1 rfl) ?_
            refine lv_if_eq (tgt := 158) hx hb dX8_copies_144 (by decide) (fun c_144_6 => ?_) (fun c_144_6 => ?_)
            · exact absurd c_144_6 (by decide)
            · have t_144_6 := c_144_6
              try simp only [kb_eq0, kb_ne0, lg_cmp_lt, lg_cmp_le, lg_cmp_gt, lg_cmp_ge, lg_cmp_eq] at t_144_6
              try simp only [Int32.lt_iff_toInt_lt, Int32.le_iff_toInt_le, ← Int32.toInt_inj, Int64.lt_iff_toInt_lt, Int64.le_iff_toInt_le, ← Int64.toInt_inj, Int32.toInt_toInt64, Int32.reduceToInt, Int64.reduceToInt] at t_144_6
              refine lv_aload_n hx hb dX8_copies_147 rfl (lv_at hl 2 rfl) ?_
              refine va_get (D := D) (ci := 8) (v := .ref mS) (C := RX8) (T := TX8) (N := 31) hx hb hts iX8_copies_X8 hown hK hP 0 rfl rfl 16 (by decide) (hts (.fieldLink RX8 20 "TapeCalculatorModel" "stands" "[I") (List.mem_of_getElem? (i := 5) rfl)) (fun _ h9 => h9) rfl dX8_copies_148 ?_
              refine lv_iload_n hx hb dX8_copies_151 rfl (lv_at hl 0 rfl) ?_
              refine va_iald hx hb hK hP 4 0 rfl rfl (vp_in_iff.mpr (by decide)) dX8_copies_152 ?_
              refine lv_topi (fun x_8 ex_8 => ?_)
              obtain rfl : s0 = x_8 := ex_8.symm
              refine lv_iconst (v := 1) hx hb dX8_copies_153 (by decide) ?_
              refine lv_isub hx hb dX8_copies_154 ?_
              refine lv_topi (fun x_9 ex_9 => ?_)
              have hs1 := k_sub (a := s0) (b := 1) (by omega) (by decide)
              simp only [Int32.reduceToInt, show (-1 : Int32).toInt = -1 from rfl] at hs1
              rw [← ex_9] at hs1
              refine lv_goto (tgt := 164) hx hb dX8_copies_155 (by decide) ?_
              refine lv_istore_n (lv' := [(3, .int x_9), (2, .int 0), (1, .int 1), (0, .ref m0)]) hx hb dX8_copies_164 rfl hl (by decide) rfl (fun ls hl => ?_)
              have J230 : ∀ (vv : Int64) (st : Int32), jT_ st j0 → ∀ (H : Heap) (locs : List Loc), va_P D vwCl [(m0, .inr (8, [.ref mH, .int aM, .long aC, .int mM, .long mQ, .int oV, .int pL, .int lI, .int sW, .int dP, .int sT, .long aT, .int 5, .int iW, .ref mI, .ref mJ, .ref mS, .ref mD, .int iH, .int aE, .int mN, .long sZ, .ref mX, .int tS, .int tA, .int tW, .ref mA, .ref mB, .ref mW, .ref mL, .int lS])), (mH, .inl (cI, 512, .inl fH)), (mI, .inl (cL, 1200, .inr (.inl fI))), (mJ, .inl (cI, 4, .inl (k4i j0 j1 j2 j3))), (mS, .inl (cI, 4, .inl (k4i st s1 s2 s3))), (mD, .inl (cL, 256, .inr (.inl fD)))] H → va_D A [(m0, .inr (8, [.ref mH, .int aM, .long aC, .int mM, .long mQ, .int oV, .int pL, .int lI, .int sW, .int dP, .int sT, .long aT, .int 5, .int iW, .ref mI, .ref mJ, .ref mS, .ref mD, .int iH, .int aE, .int mN, .long sZ, .ref mX, .int tS, .int tA, .int tW, .ref mA, .ref mB, .ref mW, .ref mL, .int lS])), (mH, .inl (cI, 512, .inl fH)), (mI, .inl (cL, 1200, .inr (.inl fI))), (mJ, .inl (cI, 4, .inl (k4i j0 j1 j2 j3))), (mS, .inl (cI, 4, .inl (k4i st s1 s2 s3))), (mD, .inl (cL, 256, .inr (.inl fD)))] → va_S A s.heap H locs → ∀ ls : Array Slot, lv_has ls 6 [(4, .long vv), (3, .int x_9), (2, .int 0), (1, .int 1), (0, .ref m0)] → W p l e ({ frames := 2, cells := 0, slots := 0, locals := 45 }) s m args below meth c H locs 0 0 (MQ below (kQ (S := (Int32 × Int32 × Int32 × Int32 × (Nat → Int32) × (Nat → Int64) × (Nat → Int64) × Int32 × Int32 × Int32 × Int32 × Int32 × Int32 × Int32 × Int32)) eI (fun r u => (0 ≤ r.toInt ∧ r.toInt ≤ 6) ∧ jP_ (u.1) ∧ jD_ (u.2.1) ∧ jC_ (u.2.2.1) ∧ jW_ (u.2.2.2.1) (u.2.2.1) ∧ jT_ (u.2.2.2.2.2.2.2.2.2.2.2.1) (u.2.2.2.2.2.2.2.1) ∧ jT_ (u.2.2.2.2.2.2.2.2.2.2.2.2.1) (u.2.2.2.2.2.2.2.2.1) ∧ jT_ (u.2.2.2.2.2.2.2.2.2.2.2.2.2.1) (u.2.2.2.2.2.2.2.2.2.1) ∧ jT_ (u.2.2.2.2.2.2.2.2.2.2.2.2.2.2) (u.2.2.2.2.2.2.2.2.2.2.1)) D (fun u => [(m0, .inr (8, [.ref mH, .int aM, .long aC, .int mM, .long mQ, .int oV, .int u.1, .int lI, .int sW, .int u.2.1, .int sT, .long aT, .int u.2.2.1, .int u.2.2.2.1, .ref mI, .ref mJ, .ref mS, .ref mD, .int iH, .int aE, .int mN, .long sZ, .ref mX, .int tS, .int tA, .int tW, .ref mA, .ref mB, .ref mW, .ref mL, .int lS])), (mH, .inl (cI, 512, .inl u.2.2.2.2.1)), (mI, .inl (cL, 1200, .inr (.inl u.2.2.2.2.2.2.1))), (mJ, .inl (cI, 4, .inl (k4i u.2.2.2.2.2.2.2.1 u.2.2.2.2.2.2.2.2.1 u.2.2.2.2.2.2.2.2.2.1 u.2.2.2.2.2.2.2.2.2.2.1))), (mS, .inl (cI, 4, .inl (k4i u.2.2.2.2.2.2.2.2.2.2.2.1 u.2.2.2.2.2.2.2.2.2.2.2.2.1 u.2.2.2.2.2.2.2.2.2.2.2.2.2.1 u.2.2.2.2.2.2.2.2.2.2.2.2.2.2))), (mD, .inl (cL, 256, .inr (.inl u.2.2.2.2.2.1)))]) A) args s 0 0 A) (F0 m 230 ls []) := by
                intro vv st hst H locs hP hD hS ls hl
                refine lv_lload hx hb dX8_copies_230 (lv_at hl 0 rfl) ?_
                refine lv_lconst (v := 0) hx hb dX8_copies_232 (by decide) ?_
                refine W.lcmp hx hb dX8_copies_233 ?_
                refine lv_if_lt (tgt := 246) hx hb dX8_copies_234 (by decide) (fun c_234_9 => ?_) (fun c_234_9 => ?_)
                · have t_234_9 := c_234_9
                  try simp only [kb_eq0, kb_ne0, lg_cmp_lt, lg_cmp_le, lg_cmp_gt, lg_cmp_ge, lg_cmp_eq] at t_234_9
                  try simp only [Int32.lt_iff_toInt_lt, Int32.le_iff_toInt_le, ← Int32.toInt_inj, Int64.lt_iff_toInt_lt, Int64.le_iff_toInt_le, ← Int64.toInt_inj, Int32.toInt_toInt64, Int32.reduceToInt, Int64.reduceToInt] at t_234_9
                  refine lv_aload_n hx hb dX8_copies_246 rfl (lv_at hl 4 rfl) ?_
                  refine lv_iconst (v := 0) hx hb dX8_copies_247 (by decide) ?_
                  refine va_put (D := D) (ci := 8) (v := .int 0) (ty := .int) (C := RX8) (T := TX8) (N := 31) hx hb hts iX8_copies_X8 tyX8 tyX8_ok nmX8 hown hK hP hD hS 0 rfl rfl 12 (by decide) (hts (.fieldLink RX8 43 "TapeCalculatorModel" "chosen" "I") (List.mem_of_getElem? (i := 1) rfl)) (fun _ h9 => h9) rfl (by decide +kernel) rfl rfl (Nat.le_of_ble_eq_true rfl) dX8_copies_248 (fun H locs hP hD hS => ?_)
                  have hP : va_P D vwCl [(m0, .inr (8, [.ref mH, .int aM, .long aC, .int mM, .long mQ, .int oV, .int pL, .int lI, .int sW, .int dP, .int sT, .long aT, .int 0, .int iW, .ref mI, .ref mJ, .ref mS, .ref mD, .int iH, .int aE, .int mN, .long sZ, .ref mX, .int tS, .int tA, .int tW, .ref mA, .ref mB, .ref mW, .ref mL, .int lS])), (mH, .inl (cI, 512, .inl fH)), (mI, .inl (cL, 1200, .inr (.inl fI))), (mJ, .inl (cI, 4, .inl (k4i j0 j1 j2 j3))), (mS, .inl (cI, 4, .inl (k4i st s1 s2 s3))), (mD, .inl (cL, 256, .inr (.inl fD)))] H := hP
                  have hD : va_D A [(m0, .inr (8, [.ref mH, .int aM, .long aC, .int mM, .long mQ, .int oV, .int pL, .int lI, .int sW, .int dP, .int sT, .long aT, .int 0, .int iW, .ref mI, .ref mJ, .ref mS, .ref mD, .int iH, .int aE, .int mN, .long sZ, .ref mX, .int tS, .int tA, .int tW, .ref mA, .ref mB, .ref mW, .ref mL, .int lS])), (mH, .inl (cI, 512, .inl fH)), (mI, .inl (cL, 1200, .inr (.inl fI))), (mJ, .inl (cI, 4, .inl (k4i j0 j1 j2 j3))), (mS, .inl (cI, 4, .inl (k4i st s1 s2 s3))), (mD, .inl (cL, 256, .inr (.inl fD)))] := hD
                  refine lv_aload_n hx hb dX8_copies_251 rfl (lv_at hl 4 rfl) ?_
                  refine lv_lload hx hb dX8_copies_252 (lv_at hl 0 rfl) ?_
                  refine lv_ldc2 (v := (-2)) hx hb hown (hts (.constantLong RX8 111 (-2)) (List.mem_of_getElem? (i := 9) rfl)) dX8_copies_254 ?_
                  refine W.lcmp hx hb dX8_copies_257 ?_
                  refine lv_if_ne (tgt := 265) hx hb dX8_copies_258 (by decide) (fun c_258_10 => ?_) (fun c_258_10 => ?_)
                  · have t_258_10 := c_258_10
                    try simp only [kb_eq0, kb_ne0, lg_cmp_lt, lg_cmp_le, lg_cmp_gt, lg_cmp_ge, lg_cmp_eq] at t_258_10
                    try simp only [Int32.lt_iff_toInt_lt, Int32.le_iff_toInt_le, ← Int32.toInt_inj, Int64.lt_iff_toInt_lt, Int64.le_iff_toInt_le, ← Int64.toInt_inj, Int32.toInt_toInt64, Int32.reduceToInt, Int64.reduceToInt] at t_258_10
                    refine lv_iconst (v := 1) hx hb dX8_copies_265 (by decide) ?_
                    refine kCallVd (wr := [(mH, .inl (cI, 512, .inl fH)), (mI, .inl (cL, 1200, .inr (.inl fI))), (mJ, .inl (cI, 4, .inl (k4i j0 j1 j2 j3))), (mS, .inl (cI, 4, .inl (k4i st s1 s2 s3))), (mD, .inl (cL, 256, .inr (.inl fD)))]) (va_runV (As := [.int 1]) (rest := []) ⟨hx, hb, hml, hown, hts⟩ (q_go l D cI cL cB cZ cT _ m0 mH mI mJ mS mD mX mA mB mW mL aM aC mM mQ oV pL lI sW dP sT aT 0 iW iH aE mN sZ tS tA tW lS 1) (cwV 1 hts gX8_copies_X8_go rfl rfl rfl (by decide +kernel) ⟨Nat.le_of_ble_eq_true rfl, Nat.le_of_ble_eq_true rfl⟩) (kPreV hG hP hD [0] rfl (by decide) 0 8 rfl rfl rfl) rfl rfl hl.1 rfl (lv_room (Nat.le_of_ble_eq_true rfl)) dX8_copies_266 ⟨Nat.le_of_ble_eq_true rfl, Nat.le_of_ble_eq_true rfl⟩) hA hP hD hS [0] [1, 2, 3, 4, 5] rfl rfl (by decide) (by decide) (fun _ u_r_12 H locs wr_12 hP hD hS => ?_)
                    have hP : va_P D vwCl [(mH, .inl (cI, 512, .inl fH)), (mI, .inl (cL, 1200, .inr (.inl fI))), (mJ, .inl (cI, 4, .inl (k4i j0 j1 j2 j3))), (mS, .inl (cI, 4, .inl (k4i st s1 s2 s3))), (mD, .inl (cL, 256, .inr (.inl fD))), (m0, .inr (8, [.ref mH, .int aM, .long aC, .int mM, .long mQ, .int oV, .int u_r_12, .int lI, .int sW, .int dP, .int sT, .long aT, .int 0, .int iW, .ref mI, .ref mJ, .ref mS, .ref mD, .int iH, .int aE, .int mN, .long sZ, .ref mX, .int tS, .int tA, .int tW, .ref mA, .ref mB, .ref mW, .ref mL, .int lS]))] H := hP
                    have hD : va_D A [(mH, .inl (cI, 512, .inl fH)), (mI, .inl (cL, 1200, .inr (.inl fI))), (mJ, .inl (cI, 4, .inl (k4i j0 j1 j2 j3))), (mS, .inl (cI, 4, .inl (k4i st s1 s2 s3))), (mD, .inl (cL, 256, .inr (.inl fD))), (m0, .inr (8, [.ref mH, .int aM, .long aC, .int mM, .long mQ, .int oV, .int u_r_12, .int lI, .int sW, .int dP, .int sT, .long aT, .int 0, .int iW, .ref mI, .ref mJ, .ref mS, .ref mD, .int iH, .int aE, .int mN, .long sZ, .ref mX, .int tS, .int tA, .int tW, .ref mA, .ref mB, .ref mW, .ref mL, .int lS]))] := hD
                    try dsimp only at wr_12
                    try simp only [Int32.reduceToInt, Int64.reduceToInt] at wr_12
                    refine lv_iconst (v := 0) hx hb dX8_copies_269 (by decide) ?_
                    refine kIret (u := (u_r_12, dP, 0, iW, fH, fD, fI, j0, j1, j2, j3, st, s1, s2, s3)) hx hb hr rfl hlocks hS dX8_copies_270 ?_ (hP.sub [5, 0, 1, 2, 3, 4] rfl) (hD.sub [5, 0, 1, 2, 3, 4] (by decide) rfl)
                    try dsimp only
                    repeat' (with_reducible apply And.intro)
                    all_goals first | with_reducible assumption | ((try simp only [jT_, jP_, jD_, jC_, jB_, jW_, Int32.reduceToInt, Int64.reduceToInt, true_or, or_true, true_and, and_true]) <;> omega)
                  · have t_258_10 := c_258_10
                    try simp only [kb_eq0, kb_ne0, lg_cmp_lt, lg_cmp_le, lg_cmp_gt, lg_cmp_ge, lg_cmp_eq] at t_258_10
                    try simp only [Int32.lt_iff_toInt_lt, Int32.le_iff_toInt_le, ← Int32.toInt_inj, Int64.lt_iff_toInt_lt, Int64.le_iff_toInt_le, ← Int64.toInt_inj, Int32.toInt_toInt64, Int32.reduceToInt, Int64.reduceToInt] at t_258_10
                    refine lv_iconst (v := 2) hx hb dX8_copies_261 (by decide) ?_
                    refine lv_goto (tgt := 266) hx hb dX8_copies_262 (by decide) ?_
                    refine kCallVd (wr := [(mH, .inl (cI, 512, .inl fH)), (mI, .inl (cL, 1200, .inr (.inl fI))), (mJ, .inl (cI, 4, .inl (k4i j0 j1 j2 j3))), (mS, .inl (cI, 4, .inl (k4i st s1 s2 s3))), (mD, .inl (cL, 256, .inr (.inl fD)))]) (va_runV (As := [.int 2]) (rest := []) ⟨hx, hb, hml, hown, hts⟩ (q_go l D cI cL cB cZ cT _ m0 mH mI mJ mS mD mX mA mB mW mL aM aC mM mQ oV pL lI sW dP sT aT 0 iW iH aE mN sZ tS tA tW lS 2) (cwV 1 hts gX8_copies_X8_go rfl rfl rfl (by decide +kernel) ⟨Nat.le_of_ble_eq_true rfl, Nat.le_of_ble_eq_true rfl⟩) (kPreV hG hP hD [0] rfl (by decide) 0 8 rfl rfl rfl) rfl rfl hl.1 rfl (lv_room (Nat.le_of_ble_eq_true rfl)) dX8_copies_266 ⟨Nat.le_of_ble_eq_true rfl, Nat.le_of_ble_eq_true rfl⟩) hA hP hD hS [0] [1, 2, 3, 4, 5] rfl rfl (by decide) (by decide) (fun _ u_r_13 H locs wr_13 hP hD hS => ?_)
                    have hP : va_P D vwCl [(mH, .inl (cI, 512, .inl fH)), (mI, .inl (cL, 1200, .inr (.inl fI))), (mJ, .inl (cI, 4, .inl (k4i j0 j1 j2 j3))), (mS, .inl (cI, 4, .inl (k4i st s1 s2 s3))), (mD, .inl (cL, 256, .inr (.inl fD))), (m0, .inr (8, [.ref mH, .int aM, .long aC, .int mM, .long mQ, .int oV, .int u_r_13, .int lI, .int sW, .int dP, .int sT, .long aT, .int 0, .int iW, .ref mI, .ref mJ, .ref mS, .ref mD, .int iH, .int aE, .int mN, .long sZ, .ref mX, .int tS, .int tA, .int tW, .ref mA, .ref mB, .ref mW, .ref mL, .int lS]))] H := hP
                    have hD : va_D A [(mH, .inl (cI, 512, .inl fH)), (mI, .inl (cL, 1200, .inr (.inl fI))), (mJ, .inl (cI, 4, .inl (k4i j0 j1 j2 j3))), (mS, .inl (cI, 4, .inl (k4i st s1 s2 s3))), (mD, .inl (cL, 256, .inr (.inl fD))), (m0, .inr (8, [.ref mH, .int aM, .long aC, .int mM, .long mQ, .int oV, .int u_r_13, .int lI, .int sW, .int dP, .int sT, .long aT, .int 0, .int iW, .ref mI, .ref mJ, .ref mS, .ref mD, .int iH, .int aE, .int mN, .long sZ, .ref mX, .int tS, .int tA, .int tW, .ref mA, .ref mB, .ref mW, .ref mL, .int lS]))] := hD
                    try dsimp only at wr_13
                    try simp only [Int32.reduceToInt, Int64.reduceToInt] at wr_13
                    refine lv_iconst (v := 0) hx hb dX8_copies_269 (by decide) ?_
                    refine kIret (u := (u_r_13, dP, 0, iW, fH, fD, fI, j0, j1, j2, j3, st, s1, s2, s3)) hx hb hr rfl hlocks hS dX8_copies_270 ?_ (hP.sub [5, 0, 1, 2, 3, 4] rfl) (hD.sub [5, 0, 1, 2, 3, 4] (by decide) rfl)
                    try dsimp only
                    repeat' (with_reducible apply And.intro)
                    all_goals first | with_reducible assumption | ((try simp only [jT_, jP_, jD_, jC_, jB_, jW_, Int32.reduceToInt, Int64.reduceToInt, true_or, or_true, true_and, and_true]) <;> omega)
                · have t_234_9 := c_234_9
                  try simp only [kb_eq0, kb_ne0, lg_cmp_lt, lg_cmp_le, lg_cmp_gt, lg_cmp_ge, lg_cmp_eq] at t_234_9
                  try simp only [Int32.lt_iff_toInt_lt, Int32.le_iff_toInt_le, ← Int32.toInt_inj, Int64.lt_iff_toInt_lt, Int64.le_iff_toInt_le, ← Int64.toInt_inj, Int32.toInt_toInt64, Int32.reduceToInt, Int64.reduceToInt] at t_234_9
                  refine lv_aload_n hx hb dX8_copies_237 rfl (lv_at hl 4 rfl) ?_
                  refine lv_lload hx hb dX8_copies_238 (lv_at hl 0 rfl) ?_
                  refine kCallVd (wr := [(mI, .inl (cL, 1200, .inr (.inl fI))), (mJ, .inl (cI, 4, .inl (k4i j0 j1 j2 j3))), (mS, .inl (cI, 4, .inl (k4i st s1 s2 s3))), (mD, .inl (cL, 256, .inr (.inl fD)))]) (va_runV (As := [.long vv]) (rest := []) ⟨hx, hb, hml, hown, hts⟩ (q_store l D cI cL cB cZ cT _ m0 mH mI mJ mS mD mX mA mB mW mL aM aC mM mQ oV pL lI sW dP sT aT 5 iW iH aE mN sZ tS tA tW lS fH vv (by omega)) (cwV 1 hts gX8_copies_X8_store rfl rfl rfl (by decide +kernel) ⟨Nat.le_of_ble_eq_true rfl, Nat.le_of_ble_eq_true rfl⟩) (kPreV hG hP hD [0, 1] rfl (by decide) 0 8 rfl rfl rfl) rfl rfl hl.1 rfl (lv_room (Nat.le_of_ble_eq_true rfl)) dX8_copies_240 ⟨Nat.le_of_ble_eq_true rfl, Nat.le_of_ble_eq_true rfl⟩) hA hP hD hS [0, 1] [2, 3, 4, 5] rfl rfl (by decide) (by decide) (fun _ u_r_14 H locs wr_14 hP hD hS => ?_)
                  have hP : va_P D vwCl [(mI, .inl (cL, 1200, .inr (.inl fI))), (mJ, .inl (cI, 4, .inl (k4i j0 j1 j2 j3))), (mS, .inl (cI, 4, .inl (k4i st s1 s2 s3))), (mD, .inl (cL, 256, .inr (.inl fD))), (m0, .inr (8, [.ref mH, .int aM, .long aC, .int mM, .long mQ, .int oV, .int pL, .int lI, .int sW, .int dP, .int sT, .long aT, .int 5, .int iW, .ref mI, .ref mJ, .ref mS, .ref mD, .int iH, .int aE, .int mN, .long sZ, .ref mX, .int tS, .int tA, .int tW, .ref mA, .ref mB, .ref mW, .ref mL, .int lS])), (mH, .inl (cI, 512, .inl u_r_14))] H := hP
                  have hD : va_D A [(mI, .inl (cL, 1200, .inr (.inl fI))), (mJ, .inl (cI, 4, .inl (k4i j0 j1 j2 j3))), (mS, .inl (cI, 4, .inl (k4i st s1 s2 s3))), (mD, .inl (cL, 256, .inr (.inl fD))), (m0, .inr (8, [.ref mH, .int aM, .long aC, .int mM, .long mQ, .int oV, .int pL, .int lI, .int sW, .int dP, .int sT, .long aT, .int 5, .int iW, .ref mI, .ref mJ, .ref mS, .ref mD, .int iH, .int aE, .int mN, .long sZ, .ref mX, .int tS, .int tA, .int tW, .ref mA, .ref mB, .ref mW, .ref mL, .int lS])), (mH, .inl (cI, 512, .inl u_r_14))] := hD
                  try dsimp only at wr_14
                  try simp only [Int32.reduceToInt, Int64.reduceToInt] at wr_14
                  refine lv_goto (tgt := 269) hx hb dX8_copies_243 (by decide) ?_
                  refine lv_iconst (v := 0) hx hb dX8_copies_269 (by decide) ?_
                  refine kIret (u := (pL, dP, 5, iW, u_r_14, fD, fI, j0, j1, j2, j3, st, s1, s2, s3)) hx hb hr rfl hlocks hS dX8_copies_270 ?_ (hP.sub [4, 5, 0, 1, 2, 3] rfl) (hD.sub [4, 5, 0, 1, 2, 3] (by decide) rfl)
                  try dsimp only
                  repeat' (with_reducible apply And.intro)
                  all_goals first | with_reducible assumption | ((try simp only [jT_, jP_, jD_, jC_, jB_, jW_, Int32.reduceToInt, Int64.reduceToInt, true_or, or_true, true_and, and_true]) <;> omega)
              refine lv_iload_n hx hb dX8_copies_165 rfl (lv_at hl 0 rfl) ?_
              refine lv_i2l hx hb dX8_copies_166 rfl ?_
              refine lv_lconst (v := 0) hx hb dX8_copies_167 (by decide) ?_
              refine lv_aload_n hx hb dX8_copies_168 rfl (lv_at hl 3 rfl) ?_
              refine va_get (D := D) (ci := 8) (v := .ref mJ) (C := RX8) (T := TX8) (N := 31) hx hb hts iX8_copies_X8 hown hK hP 0 rfl rfl 15 (by decide) (hts (.fieldLink RX8 17 "TapeCalculatorModel" "items" "[I") (List.mem_of_getElem? (i := 6) rfl)) (fun _ h9 => h9) rfl dX8_copies_169 ?_
              refine lv_iload_n hx hb dX8_copies_172 rfl (lv_at hl 1 rfl) ?_
              refine va_iald hx hb hK hP 3 0 rfl rfl (vp_in_iff.mpr (by decide)) dX8_copies_173 ?_
              refine lv_topi (fun x_15 ex_15 => ?_)
              obtain rfl : j0 = x_15 := ex_15.symm
              refine lv_iconst (v := 1) hx hb dX8_copies_174 (by decide) ?_
              refine lv_isub hx hb dX8_copies_175 ?_
              refine lv_topi (fun x_16 ex_16 => ?_)
              have hs0 := k_sub (a := j0) (b := 1) (by omega) (by decide)
              simp only [Int32.reduceToInt, show (-1 : Int32).toInt = -1 from rfl] at hs0
              rw [← ex_16] at hs0
              refine lv_i2l hx hb dX8_copies_176 rfl ?_
              refine kCallI (wr := [(m0, .inr (8, [.ref mH, .int aM, .long aC, .int mM, .long mQ, .int oV, .int pL, .int lI, .int sW, .int dP, .int sT, .long aT, .int 5, .int iW, .ref mI, .ref mJ, .ref mS, .ref mD, .int iH, .int aE, .int mN, .long sZ, .ref mX, .int tS, .int tA, .int tW, .ref mA, .ref mB, .ref mW, .ref mL, .int lS])), (mH, .inl (cI, 512, .inl fH)), (mI, .inl (cL, 1200, .inr (.inl fI))), (mJ, .inl (cI, 4, .inl (k4i j0 j1 j2 j3))), (mS, .inl (cI, 4, .inl (k4i s0 s1 s2 s3))), (mD, .inl (cL, 256, .inr (.inl fD)))]) (va_runS (As := [.long x_9.toInt64, .long 0, .long x_16.toInt64]) (rest := []) ⟨hx, hb, hml, hown, hts⟩ (q_in l D cI cL cB cZ cT _ (x_9.toInt64) 0 (x_16.toInt64)) (va_cwS 3 hts gX8_copies_X8_in rfl rfl rfl (by decide +kernel) ⟨Nat.le_of_ble_eq_true rfl, Nat.le_of_ble_eq_true rfl⟩) (kPreS hG hP hD [] rfl (by decide)) rfl rfl hl.1 rfl (lv_room (Nat.le_of_ble_eq_true rfl)) dX8_copies_177 ⟨Nat.le_of_ble_eq_true rfl, Nat.le_of_ble_eq_true rfl⟩) hA hP hD hS [] [0, 1, 2, 3, 4, 5] rfl rfl (by decide) (by decide) (fun r_17 u_r_17 H locs wr_17 hP hD hS => ?_)
              have hP : va_P D vwCl [(m0, .inr (8, [.ref mH, .int aM, .long aC, .int mM, .long mQ, .int oV, .int pL, .int lI, .int sW, .int dP, .int sT, .long aT, .int 5, .int iW, .ref mI, .ref mJ, .ref mS, .ref mD, .int iH, .int aE, .int mN, .long sZ, .ref mX, .int tS, .int tA, .int tW, .ref mA, .ref mB, .ref mW, .ref mL, .int lS])), (mH, .inl (cI, 512, .inl fH)), (mI, .inl (cL, 1200, .inr (.inl fI))), (mJ, .inl (cI, 4, .inl (k4i j0 j1 j2 j3))), (mS, .inl (cI, 4, .inl (k4i s0 s1 s2 s3))), (mD, .inl (cL, 256, .inr (.inl fD)))] H := hP
              have hD : va_D A [(m0, .inr (8, [.ref mH, .int aM, .long aC, .int mM, .long mQ, .int oV, .int pL, .int lI, .int sW, .int dP, .int sT, .long aT, .int 5, .int iW, .ref mI, .ref mJ, .ref mS, .ref mD, .int iH, .int aE, .int mN, .long sZ, .ref mX, .int tS, .int tA, .int tW, .ref mA, .ref mB, .ref mW, .ref mL, .int lS])), (mH, .inl (cI, 512, .inl fH)), (mI, .inl (cL, 1200, .inr (.inl fI))), (mJ, .inl (cI, 4, .inl (k4i j0 j1 j2 j3))), (mS, .inl (cI, 4, .inl (k4i s0 s1 s2 s3))), (mD, .inl (cL, 256, .inr (.inl fD)))] := hD
              try dsimp only at wr_17
              subst wr_17
              refine lv_if_eq (tgt := 198) hx hb dX8_copies_180 (by decide) (fun c_180_17 => ?_) (fun c_180_17 => ?_)
              · have t_180_17 := c_180_17
                try simp only [kb_eq0, kb_ne0, lg_cmp_lt, lg_cmp_le, lg_cmp_gt, lg_cmp_ge, lg_cmp_eq] at t_180_17
                try simp only [Int32.lt_iff_toInt_lt, Int32.le_iff_toInt_le, ← Int32.toInt_inj, Int64.lt_iff_toInt_lt, Int64.le_iff_toInt_le, ← Int64.toInt_inj, Int32.toInt_toInt64, Int32.reduceToInt, Int64.reduceToInt] at t_180_17
                refine lv_ldc2 (v := (-9)) hx hb hown (hts (.constantLong RX8 107 (-9)) (List.mem_of_getElem? (i := 8) rfl)) dX8_copies_198 ?_
                refine lv_lstore (lv' := [(4, .long (-9)), (3, .int x_9), (2, .int 0), (1, .int 1), (0, .ref m0)]) hx hb dX8_copies_201 hl (by decide) rfl (fun ls hl => ?_)
                refine lv_lload hx hb dX8_copies_203 (lv_at hl 0 rfl) ?_
                refine lv_ldc2 (v := (-9)) hx hb hown (hts (.constantLong RX8 107 (-9)) (List.mem_of_getElem? (i := 8) rfl)) dX8_copies_205 ?_
                refine W.lcmp hx hb dX8_copies_208 ?_
                refine lv_topi (fun x_19 ex_19 => ?_)
                obtain rfl : x_19 = 0 := ex_19.trans (by decide)
                refine lv_if_eq (tgt := 230) hx hb dX8_copies_209 (by decide) (fun c_209_19 => ?_) (fun c_209_19 => ?_)
                · have t_209_19 := c_209_19
                  try simp only [kb_eq0, kb_ne0, lg_cmp_lt, lg_cmp_le, lg_cmp_gt, lg_cmp_ge, lg_cmp_eq] at t_209_19
                  try simp only [Int32.lt_iff_toInt_lt, Int32.le_iff_toInt_le, ← Int32.toInt_inj, Int64.lt_iff_toInt_lt, Int64.le_iff_toInt_le, ← Int64.toInt_inj, Int32.toInt_toInt64, Int32.reduceToInt, Int64.reduceToInt] at t_209_19
                  exact J230 (-9) s0 (by first | with_reducible assumption | ((try simp only [jT_, jP_, jD_, jC_, jB_, jW_, Int32.reduceToInt, Int64.reduceToInt, true_or, or_true, true_and, and_true]) <;> omega)) _ _ (hP.sub [0, 1, 2, 3, 4, 5] rfl) (hD.sub [0, 1, 2, 3, 4, 5] (by decide) rfl) hS ls (lv_sub hl [0, 1, 2, 3, 4] rfl)
                · exact absurd (by decide) c_209_19
              · have t_180_17 := c_180_17
                try simp only [kb_eq0, kb_ne0, lg_cmp_lt, lg_cmp_le, lg_cmp_gt, lg_cmp_ge, lg_cmp_eq] at t_180_17
                try simp only [Int32.lt_iff_toInt_lt, Int32.le_iff_toInt_le, ← Int32.toInt_inj, Int64.lt_iff_toInt_lt, Int64.le_iff_toInt_le, ← Int64.toInt_inj, Int32.toInt_toInt64, Int32.reduceToInt, Int64.reduceToInt] at t_180_17
                refine lv_aload_n hx hb dX8_copies_183 rfl (lv_at hl 3 rfl) ?_
                refine va_get (D := D) (ci := 8) (v := .ref mI) (C := RX8) (T := TX8) (N := 31) hx hb hts iX8_copies_X8 hown hK hP 0 rfl rfl 14 (by decide) (hts (.fieldLink RX8 13 "TapeCalculatorModel" "item" "[J") (List.mem_of_getElem? (i := 7) rfl)) (fun _ h9 => h9) rfl dX8_copies_184 ?_
                refine lv_sipush (v := 300) hx hb dX8_copies_187 (by decide) ?_
                refine lv_iload_n hx hb dX8_copies_190 rfl (lv_at hl 1 rfl) ?_
                refine lv_imul hx hb dX8_copies_191 ?_
                refine lv_topi (fun x_21 ex_21 => ?_)
                obtain rfl : x_21 = 0 := ex_21.trans (by decide)
                refine lv_iload_n hx hb dX8_copies_192 rfl (lv_at hl 0 rfl) ?_
                refine lv_iadd hx hb dX8_copies_193 ?_
                refine va_lald hx hb hK hP 2 1 rfl rfl (vp_in_iff.mpr (by have hx9 := k_addg (a := 0) (b := x_9) (by decide) (by omega); simp only [Int32.reduceToInt] at hx9; omega)) dX8_copies_194 ?_
                refine lv_goto (tgt := 201) hx hb dX8_copies_195 (by decide) ?_
                refine lv_topl (fun x_22 ex_22 => ?_)
                refine lv_lstore (lv' := [(4, .long x_22), (3, .int x_9), (2, .int 0), (1, .int 1), (0, .ref m0)]) hx hb dX8_copies_201 hl (by decide) rfl (fun ls hl => ?_)
                refine lv_lload hx hb dX8_copies_203 (lv_at hl 0 rfl) ?_
                refine lv_ldc2 (v := (-9)) hx hb hown (hts (.constantLong RX8 107 (-9)) (List.mem_of_getElem? (i := 8) rfl)) dX8_copies_205 ?_
                refine W.lcmp hx hb dX8_copies_208 ?_
                refine lv_if_eq (tgt := 230) hx hb dX8_copies_209 (by decide) (fun c_209_22 => ?_) (fun c_209_22 => ?_)
                · have t_209_22 := c_209_22
                  try simp only [kb_eq0, kb_ne0, lg_cmp_lt, lg_cmp_le, lg_cmp_gt, lg_cmp_ge, lg_cmp_eq] at t_209_22
                  try simp only [Int32.lt_iff_toInt_lt, Int32.le_iff_toInt_le, ← Int32.toInt_inj, Int64.lt_iff_toInt_lt, Int64.le_iff_toInt_le, ← Int64.toInt_inj, Int32.toInt_toInt64, Int32.reduceToInt, Int64.reduceToInt] at t_209_22
                  exact J230 x_22 s0 (by first | with_reducible assumption | ((try simp only [jT_, jP_, jD_, jC_, jB_, jW_, Int32.reduceToInt, Int64.reduceToInt, true_or, or_true, true_and, and_true]) <;> omega)) _ _ (hP.sub [0, 1, 2, 3, 4, 5] rfl) (hD.sub [0, 1, 2, 3, 4, 5] (by decide) rfl) hS ls (lv_sub hl [0, 1, 2, 3, 4] rfl)
                · have t_209_22 := c_209_22
                  try simp only [kb_eq0, kb_ne0, lg_cmp_lt, lg_cmp_le, lg_cmp_gt, lg_cmp_ge, lg_cmp_eq] at t_209_22
                  try simp only [Int32.lt_iff_toInt_lt, Int32.le_iff_toInt_le, ← Int32.toInt_inj, Int64.lt_iff_toInt_lt, Int64.le_iff_toInt_le, ← Int64.toInt_inj, Int32.toInt_toInt64, Int32.reduceToInt, Int64.reduceToInt] at t_209_22
                  refine lv_aload_n hx hb dX8_copies_212 rfl (lv_at hl 4 rfl) ?_
                  refine va_get (D := D) (ci := 8) (v := .ref mS) (C := RX8) (T := TX8) (N := 31) hx hb hts iX8_copies_X8 hown hK hP 0 rfl rfl 16 (by decide) (hts (.fieldLink RX8 20 "TapeCalculatorModel" "stands" "[I") (List.mem_of_getElem? (i := 5) rfl)) (fun _ h9 => h9) rfl dX8_copies_213 ?_
                  refine lv_iload_n hx hb dX8_copies_216 rfl (lv_at hl 2 rfl) ?_
                  refine lv_dup2_11 hx hb dX8_copies_217 rfl rfl ?_
                  refine va_iald hx hb hK hP 4 0 rfl rfl (vp_in_iff.mpr (by decide)) dX8_copies_218 ?_
                  refine lv_topi (fun x_24 ex_24 => ?_)
                  obtain rfl : s0 = x_24 := ex_24.symm
                  refine lv_iload_n hx hb dX8_copies_219 rfl (lv_at hl 3 rfl) ?_
                  refine lv_if_eq (tgt := 227) hx hb dX8_copies_220 (by decide) (fun c_220_24 => ?_) (fun c_220_24 => ?_)
                  · exact absurd c_220_24 (by decide)
                  · have t_220_24 := c_220_24
                    try simp only [kb_eq0, kb_ne0, lg_cmp_lt, lg_cmp_le, lg_cmp_gt, lg_cmp_ge, lg_cmp_eq] at t_220_24
                    try simp only [Int32.lt_iff_toInt_lt, Int32.le_iff_toInt_le, ← Int32.toInt_inj, Int64.lt_iff_toInt_lt, Int64.le_iff_toInt_le, ← Int64.toInt_inj, Int32.toInt_toInt64, Int32.reduceToInt, Int64.reduceToInt] at t_220_24
                    refine lv_iconst (v := (-1)) hx hb dX8_copies_223 (by decide) ?_
                    refine lv_goto (tgt := 228) hx hb dX8_copies_224 (by decide) ?_
                    refine lv_iadd hx hb dX8_copies_228 ?_
                    refine lv_topi (fun x_26 ex_26 => ?_)
                    have hs2 := k_addg (a := s0) (b := (-1)) (by omega) (by decide)
                    simp only [Int32.reduceToInt, show (-1 : Int32).toInt = -1 from rfl] at hs2
                    rw [← ex_26] at hs2
                    refine va_iast hx hb hK hP hD hS 4 0 rfl rfl (vp_in_iff.mpr (by decide)) dX8_copies_229 (fun H locs hP hD hS => ?_)
                    rw [k4i_0] at hP hD
                    have hP : va_P D vwCl [(m0, .inr (8, [.ref mH, .int aM, .long aC, .int mM, .long mQ, .int oV, .int pL, .int lI, .int sW, .int dP, .int sT, .long aT, .int 5, .int iW, .ref mI, .ref mJ, .ref mS, .ref mD, .int iH, .int aE, .int mN, .long sZ, .ref mX, .int tS, .int tA, .int tW, .ref mA, .ref mB, .ref mW, .ref mL, .int lS])), (mH, .inl (cI, 512, .inl fH)), (mI, .inl (cL, 1200, .inr (.inl fI))), (mJ, .inl (cI, 4, .inl (k4i j0 j1 j2 j3))), (mS, .inl (cI, 4, .inl (k4i x_26 s1 s2 s3))), (mD, .inl (cL, 256, .inr (.inl fD)))] H := hP
                    have hD : va_D A [(m0, .inr (8, [.ref mH, .int aM, .long aC, .int mM, .long mQ, .int oV, .int pL, .int lI, .int sW, .int dP, .int sT, .long aT, .int 5, .int iW, .ref mI, .ref mJ, .ref mS, .ref mD, .int iH, .int aE, .int mN, .long sZ, .ref mX, .int tS, .int tA, .int tW, .ref mA, .ref mB, .ref mW, .ref mL, .int lS])), (mH, .inl (cI, 512, .inl fH)), (mI, .inl (cL, 1200, .inr (.inl fI))), (mJ, .inl (cI, 4, .inl (k4i j0 j1 j2 j3))), (mS, .inl (cI, 4, .inl (k4i x_26 s1 s2 s3))), (mD, .inl (cL, 256, .inr (.inl fD)))] := hD
                    exact J230 x_22 x_26 (by first | with_reducible assumption | ((try simp only [jT_, jP_, jD_, jC_, jB_, jW_, Int32.reduceToInt, Int64.reduceToInt, true_or, or_true, true_and, and_true]) <;> omega)) _ _ (hP.sub [0, 1, 2, 3, 4, 5] rfl) (hD.sub [0, 1, 2, 3, 4, 5] (by decide) rfl) hS ls (lv_sub hl [0, 1, 2, 3, 4] rfl)
      · exact absurd (by decide) c_79_2
    · exact absurd (by decide) c_16_1
  · exact absurd c_4_0 (by decide)
set_option maxRecDepth 100000 in
set_option maxHeartbeats 4000000 in
theorem q_copies_6 (l : Launch) (D : va_G) (cI cL cB cZ cT : ClassId) (sz : Nat) (m0 mH mI mJ mS mD mX mA mB mW mL : Nat) (aM : Int32) (aC : Int64) (mM : Int32) (mQ : Int64) (oV pL lI sW dP sT : Int32) (aT : Int64) (iW iH aE mN : Int32) (sZ : Int64) (tS tA tW lS : Int32) (fH : Nat → Int32) (fI : Nat → Int64) (j0 j1 j2 j3 : Int32) (s0 s1 s2 s3 : Int32) (fD : Nat → Int64) (hpl : jP_ pL) (hdp : jD_ dP) (hch : jC_ 6) (hiw : jW_ iW 6) (ht0 : jT_ s0 j0) (ht1 : jT_ s1 j1) (ht2 : jT_ s2 j2) (ht3 : jT_ s3 j3) (had : 0 ≤ aE.toInt ∧ aE.toInt ≤ 511 ∧ (iH.toInt = 0 ∨ aE.toInt ≤ 510)) : kM (S := (Int32 × Int32 × Int32 × Int32 × (Nat → Int32) × (Nat → Int64) × (Nat → Int64) × Int32 × Int32 × Int32 × Int32 × Int32 × Int32 × Int32 × Int32)) l yX8_copies wsX8_copies ({ frames := 2, cells := 0, slots := 0, locals := 45 }) D (kT cI cL cB cZ cT) [.ref m0] [(m0, .inr (8, [.ref mH, .int aM, .long aC, .int mM, .long mQ, .int oV, .int pL, .int lI, .int sW, .int dP, .int sT, .long aT, .int 6, .int iW, .ref mI, .ref mJ, .ref mS, .ref mD, .int iH, .int aE, .int mN, .long sZ, .ref mX, .int tS, .int tA, .int tW, .ref mA, .ref mB, .ref mW, .ref mL, .int lS])), (mH, .inl (cI, 512, .inl fH)), (mI, .inl (cL, 1200, .inr (.inl fI))), (mJ, .inl (cI, 4, .inl (k4i j0 j1 j2 j3))), (mS, .inl (cI, 4, .inl (k4i s0 s1 s2 s3))), (mD, .inl (cL, 256, .inr (.inl fD)))] sz eI (fun r u => (0 ≤ r.toInt ∧ r.toInt ≤ 6) ∧ jP_ (u.1) ∧ jD_ (u.2.1) ∧ jC_ (u.2.2.1) ∧ jW_ (u.2.2.2.1) (u.2.2.1) ∧ jT_ (u.2.2.2.2.2.2.2.2.2.2.2.1) (u.2.2.2.2.2.2.2.1) ∧ jT_ (u.2.2.2.2.2.2.2.2.2.2.2.2.1) (u.2.2.2.2.2.2.2.2.1) ∧ jT_ (u.2.2.2.2.2.2.2.2.2.2.2.2.2.1) (u.2.2.2.2.2.2.2.2.2.1) ∧ jT_ (u.2.2.2.2.2.2.2.2.2.2.2.2.2.2) (u.2.2.2.2.2.2.2.2.2.2.1)) (fun u => [(m0, .inr (8, [.ref mH, .int aM, .long aC, .int mM, .long mQ, .int oV, .int u.1, .int lI, .int sW, .int u.2.1, .int sT, .long aT, .int u.2.2.1, .int u.2.2.2.1, .ref mI, .ref mJ, .ref mS, .ref mD, .int iH, .int aE, .int mN, .long sZ, .ref mX, .int tS, .int tA, .int tW, .ref mA, .ref mB, .ref mW, .ref mL, .int lS])), (mH, .inl (cI, 512, .inl u.2.2.2.2.1)), (mI, .inl (cL, 1200, .inr (.inl u.2.2.2.2.2.2.1))), (mJ, .inl (cI, 4, .inl (k4i u.2.2.2.2.2.2.2.1 u.2.2.2.2.2.2.2.2.1 u.2.2.2.2.2.2.2.2.2.1 u.2.2.2.2.2.2.2.2.2.2.1))), (mS, .inl (cI, 4, .inl (k4i u.2.2.2.2.2.2.2.2.2.2.2.1 u.2.2.2.2.2.2.2.2.2.2.2.2.1 u.2.2.2.2.2.2.2.2.2.2.2.2.2.1 u.2.2.2.2.2.2.2.2.2.2.2.2.2.2))), (mD, .inl (cL, 256, .inr (.inl u.2.2.2.2.2.1)))]) 0 0 := by
  refine kStart (cc := cX8_copies) (maxL := 6) (ret := (some .int)) (own := RX8) (by decide) rfl rfl (Nat.le_of_ble_eq_true rfl) ?_
  intro p e s m args below meth c A ls hx hb hr hml hown hts hlocks hnm hsz hA hG hP hD hS hl
  have hK := hG.1
  have hl : lv_has ls 6 [(0, .ref m0)] := hl
  have hiw1 : iW.toInt = 0 := by simp only [jW_, Int32.reduceToInt] at hiw; omega
  have hu1 : 0 ≤ s1.toInt ∧ s1.toInt ≤ j1.toInt ∧ j1.toInt ≤ 300 := ht1
  refine lv_aload_n hx hb dX8_copies_0 rfl (lv_at hl 0 rfl) ?_
  refine va_get (D := D) (ci := 8) (v := .int 6) (C := RX8) (T := TX8) (N := 31) hx hb hts iX8_copies_X8 hown hK hP 0 rfl rfl 12 (by decide) (hts (.fieldLink RX8 43 "TapeCalculatorModel" "chosen" "I") (List.mem_of_getElem? (i := 1) rfl)) (fun _ h9 => h9) rfl dX8_copies_1 ?_
  refine lv_if_ne (tgt := 10) hx hb dX8_copies_4 (by decide) (fun c_4_0 => ?_) (fun c_4_0 => ?_)
  · have t_4_0 := c_4_0
    try simp only [kb_eq0, kb_ne0, lg_cmp_lt, lg_cmp_le, lg_cmp_gt, lg_cmp_ge, lg_cmp_eq] at t_4_0
    try simp only [Int32.lt_iff_toInt_lt, Int32.le_iff_toInt_le, ← Int32.toInt_inj, Int64.lt_iff_toInt_lt, Int64.le_iff_toInt_le, ← Int64.toInt_inj, Int32.toInt_toInt64, Int32.reduceToInt, Int64.reduceToInt] at t_4_0
    refine lv_aload_n hx hb dX8_copies_10 rfl (lv_at hl 0 rfl) ?_
    refine va_get (D := D) (ci := 8) (v := .int 6) (C := RX8) (T := TX8) (N := 31) hx hb hts iX8_copies_X8 hown hK hP 0 rfl rfl 12 (by decide) (hts (.fieldLink RX8 43 "TapeCalculatorModel" "chosen" "I") (List.mem_of_getElem? (i := 1) rfl)) (fun _ h9 => h9) rfl dX8_copies_11 ?_
    refine lv_bipush (v := 12) hx hb dX8_copies_14 (by decide) ?_
    refine lv_icmp_le (tgt := 73) hx hb dX8_copies_16 (by decide) (fun c_16_1 => ?_) (fun c_16_1 => ?_)
    · have t_16_1 := c_16_1
      try simp only [kb_eq0, kb_ne0, lg_cmp_lt, lg_cmp_le, lg_cmp_gt, lg_cmp_ge, lg_cmp_eq] at t_16_1
      try simp only [Int32.lt_iff_toInt_lt, Int32.le_iff_toInt_le, ← Int32.toInt_inj, Int64.lt_iff_toInt_lt, Int64.le_iff_toInt_le, ← Int64.toInt_inj, Int32.toInt_toInt64, Int32.reduceToInt, Int64.reduceToInt] at t_16_1
      refine lv_aload_n hx hb dX8_copies_73 rfl (lv_at hl 0 rfl) ?_
      refine va_get (D := D) (ci := 8) (v := .int 6) (C := RX8) (T := TX8) (N := 31) hx hb hts iX8_copies_X8 hown hK hP 0 rfl rfl 12 (by decide) (hts (.fieldLink RX8 43 "TapeCalculatorModel" "chosen" "I") (List.mem_of_getElem? (i := 1) rfl)) (fun _ h9 => h9) rfl dX8_copies_74 ?_
      refine lv_bipush (v := 8) hx hb dX8_copies_77 (by decide) ?_
      refine lv_icmp_le (tgt := 109) hx hb dX8_copies_79 (by decide) (fun c_79_2 => ?_) (fun c_79_2 => ?_)
      · have t_79_2 := c_79_2
        try simp only [kb_eq0, kb_ne0, lg_cmp_lt, lg_cmp_le, lg_cmp_gt, lg_cmp_ge, lg_cmp_eq] at t_79_2
        try simp only [Int32.lt_iff_toInt_lt, Int32.le_iff_toInt_le, ← Int32.toInt_inj, Int64.lt_iff_toInt_lt, Int64.le_iff_toInt_le, ← Int64.toInt_inj, Int32.toInt_toInt64, Int32.reduceToInt, Int64.reduceToInt] at t_79_2
        refine lv_aload_n hx hb dX8_copies_109 rfl (lv_at hl 0 rfl) ?_
        refine va_get (D := D) (ci := 8) (v := .int 6) (C := RX8) (T := TX8) (N := 31) hx hb hts iX8_copies_X8 hown hK hP 0 rfl rfl 12 (by decide) (hts (.fieldLink RX8 43 "TapeCalculatorModel" "chosen" "I") (List.mem_of_getElem? (i := 1) rfl)) (fun _ h9 => h9) rfl dX8_copies_110 ?_
        refine lv_iconst (v := 4) hx hb dX8_copies_113 (by decide) ?_
        refine lv_icmp_le (tgt := 121) hx hb dX8_copies_114 (by decide) (fun c_114_3 => ?_) (fun c_114_3 => ?_)
        · exact absurd c_114_3 (by decide)
        · have t_114_3 := c_114_3
          try simp only [kb_eq0, kb_ne0, lg_cmp_lt, lg_cmp_le, lg_cmp_gt, lg_cmp_ge, lg_cmp_eq] at t_114_3
          try simp only [Int32.lt_iff_toInt_lt, Int32.le_iff_toInt_le, ← Int32.toInt_inj, Int64.lt_iff_toInt_lt, Int64.le_iff_toInt_le, ← Int64.toInt_inj, Int32.toInt_toInt64, Int32.reduceToInt, Int64.reduceToInt] at t_114_3
          refine lv_iconst (v := 1) hx hb dX8_copies_117 (by decide) ?_
          refine lv_goto (tgt := 122) hx hb dX8_copies_118 (by decide) ?_
          refine lv_istore_n (lv' := [(1, .int 1), (0, .ref m0)]) hx hb dX8_copies_122 rfl hl (by decide) rfl (fun ls hl => ?_)
          refine lv_iload_n hx hb dX8_copies_123 rfl (lv_at hl 0 rfl) ?_
          refine lv_if_eq (tgt := 136) hx hb dX8_copies_124 (by decide) (fun c_124_4 => ?_) (fun c_124_4 => ?_)
          · exact absurd c_124_4 (by decide)
          · have t_124_4 := c_124_4
            try simp only [kb_eq0, kb_ne0, lg_cmp_lt, lg_cmp_le, lg_cmp_gt, lg_cmp_ge, lg_cmp_eq] at t_124_4
            try simp only [Int32.lt_iff_toInt_lt, Int32.le_iff_toInt_le, ← Int32.toInt_inj, Int64.lt_iff_toInt_lt, Int64.le_iff_toInt_le, ← Int64.toInt_inj, Int32.toInt_toInt64, Int32.reduceToInt, Int64.reduceToInt] at t_124_4
            refine lv_aload_n hx hb dX8_copies_127 rfl (lv_at hl 1 rfl) ?_
            refine va_get (D := D) (ci := 8) (v := .int 6) (C := RX8) (T := TX8) (N := 31) hx hb hts iX8_copies_X8 hown hK hP 0 rfl rfl 12 (by decide) (hts (.fieldLink RX8 43 "TapeCalculatorModel" "chosen" "I") (List.mem_of_getElem? (i := 1) rfl)) (fun _ h9 => h9) rfl dX8_copies_128 ?_
            refine lv_iconst (v := 5) hx hb dX8_copies_131 (by decide) ?_
            refine lv_isub hx hb dX8_copies_132 ?_
            refine lv_topi (fun x_6 ex_6 => ?_)
            obtain rfl : x_6 = 1 := ex_6.trans (by decide)
            refine lv_goto (tgt := 142) hx hb dX8_copies_133 (by decide) ?_
            refine lv_istore_n (lv' := [(2, .int 1), (1, .int 1), (0, .ref m0)]) hx hb dX8_copies_142 rfl hl (by decide) rfl (fun ls hl => ?_)
            refine lv_iload_n hx hb dX8_copies_143 rfl (lv_at hl 1 rfl) ?_
            refine lv_if_eq (tgt := 158) hx hb dX8_copies_144 (by decide) (fun c_144_6 => ?_) (fun c_144_6 => ?_)
            · exact absurd c_144_6 (by decide)
            · have t_144_6 := c_144_6
              try simp only [kb_eq0, kb_ne0, lg_cmp_lt, lg_cmp_le, lg_cmp_gt, lg_cmp_ge, lg_cmp_eq] at t_144_6
              try simp only [Int32.lt_iff_toInt_lt, Int32.le_iff_toInt_le, ← Int32.toInt_inj, Int64.lt_iff_toInt_lt, Int64.le_iff_toInt_le, ← Int64.toInt_inj, Int32.toInt_toInt64, Int32.reduceToInt, Int64.reduceToInt] at t_144_6
              refine lv_aload_n hx hb dX8_copies_147 rfl (lv_at hl 2 rfl) ?_
              refine va_get (D := D) (ci := 8) (v := .ref mS) (C := RX8) (T := TX8) (N := 31) hx hb hts iX8_copies_X8 hown hK hP 0 rfl rfl 16 (by decide) (hts (.fieldLink RX8 20 "TapeCalculatorModel" "stands" "[I") (List.mem_of_getElem? (i := 5) rfl)) (fun _ h9 => h9) rfl dX8_copies_148 ?_
              refine lv_iload_n hx hb dX8_copies_151 rfl (lv_at hl 0 rfl) ?_
              refine va_iald hx hb hK hP 4 0 rfl rfl (vp_in_iff.mpr (by decide)) dX8_copies_152 ?_
              refine lv_topi (fun x_8 ex_8 => ?_)
              obtain rfl : s1 = x_8 := ex_8.symm
              refine lv_iconst (v := 1) hx hb dX8_copies_153 (by decide) ?_
              refine lv_isub hx hb dX8_copies_154 ?_
              refine lv_topi (fun x_9 ex_9 => ?_)
              have hs1 := k_sub (a := s1) (b := 1) (by omega) (by decide)
              simp only [Int32.reduceToInt, show (-1 : Int32).toInt = -1 from rfl] at hs1
              rw [← ex_9] at hs1
              refine lv_goto (tgt := 164) hx hb dX8_copies_155 (by decide) ?_
              refine lv_istore_n (lv' := [(3, .int x_9), (2, .int 1), (1, .int 1), (0, .ref m0)]) hx hb dX8_copies_164 rfl hl (by decide) rfl (fun ls hl => ?_)
              have J230 : ∀ (vv : Int64) (st : Int32), jT_ st j1 → ∀ (H : Heap) (locs : List Loc), va_P D vwCl [(m0, .inr (8, [.ref mH, .int aM, .long aC, .int mM, .long mQ, .int oV, .int pL, .int lI, .int sW, .int dP, .int sT, .long aT, .int 6, .int iW, .ref mI, .ref mJ, .ref mS, .ref mD, .int iH, .int aE, .int mN, .long sZ, .ref mX, .int tS, .int tA, .int tW, .ref mA, .ref mB, .ref mW, .ref mL, .int lS])), (mH, .inl (cI, 512, .inl fH)), (mI, .inl (cL, 1200, .inr (.inl fI))), (mJ, .inl (cI, 4, .inl (k4i j0 j1 j2 j3))), (mS, .inl (cI, 4, .inl (k4i s0 st s2 s3))), (mD, .inl (cL, 256, .inr (.inl fD)))] H → va_D A [(m0, .inr (8, [.ref mH, .int aM, .long aC, .int mM, .long mQ, .int oV, .int pL, .int lI, .int sW, .int dP, .int sT, .long aT, .int 6, .int iW, .ref mI, .ref mJ, .ref mS, .ref mD, .int iH, .int aE, .int mN, .long sZ, .ref mX, .int tS, .int tA, .int tW, .ref mA, .ref mB, .ref mW, .ref mL, .int lS])), (mH, .inl (cI, 512, .inl fH)), (mI, .inl (cL, 1200, .inr (.inl fI))), (mJ, .inl (cI, 4, .inl (k4i j0 j1 j2 j3))), (mS, .inl (cI, 4, .inl (k4i s0 st s2 s3))), (mD, .inl (cL, 256, .inr (.inl fD)))] → va_S A s.heap H locs → ∀ ls : Array Slot, lv_has ls 6 [(4, .long vv), (3, .int x_9), (2, .int 1), (1, .int 1), (0, .ref m0)] → W p l e ({ frames := 2, cells := 0, slots := 0, locals := 45 }) s m args below meth c H locs 0 0 (MQ below (kQ (S := (Int32 × Int32 × Int32 × Int32 × (Nat → Int32) × (Nat → Int64) × (Nat → Int64) × Int32 × Int32 × Int32 × Int32 × Int32 × Int32 × Int32 × Int32)) eI (fun r u => (0 ≤ r.toInt ∧ r.toInt ≤ 6) ∧ jP_ (u.1) ∧ jD_ (u.2.1) ∧ jC_ (u.2.2.1) ∧ jW_ (u.2.2.2.1) (u.2.2.1) ∧ jT_ (u.2.2.2.2.2.2.2.2.2.2.2.1) (u.2.2.2.2.2.2.2.1) ∧ jT_ (u.2.2.2.2.2.2.2.2.2.2.2.2.1) (u.2.2.2.2.2.2.2.2.1) ∧ jT_ (u.2.2.2.2.2.2.2.2.2.2.2.2.2.1) (u.2.2.2.2.2.2.2.2.2.1) ∧ jT_ (u.2.2.2.2.2.2.2.2.2.2.2.2.2.2) (u.2.2.2.2.2.2.2.2.2.2.1)) D (fun u => [(m0, .inr (8, [.ref mH, .int aM, .long aC, .int mM, .long mQ, .int oV, .int u.1, .int lI, .int sW, .int u.2.1, .int sT, .long aT, .int u.2.2.1, .int u.2.2.2.1, .ref mI, .ref mJ, .ref mS, .ref mD, .int iH, .int aE, .int mN, .long sZ, .ref mX, .int tS, .int tA, .int tW, .ref mA, .ref mB, .ref mW, .ref mL, .int lS])), (mH, .inl (cI, 512, .inl u.2.2.2.2.1)), (mI, .inl (cL, 1200, .inr (.inl u.2.2.2.2.2.2.1))), (mJ, .inl (cI, 4, .inl (k4i u.2.2.2.2.2.2.2.1 u.2.2.2.2.2.2.2.2.1 u.2.2.2.2.2.2.2.2.2.1 u.2.2.2.2.2.2.2.2.2.2.1))), (mS, .inl (cI, 4, .inl (k4i u.2.2.2.2.2.2.2.2.2.2.2.1 u.2.2.2.2.2.2.2.2.2.2.2.2.1 u.2.2.2.2.2.2.2.2.2.2.2.2.2.1 u.2.2.2.2.2.2.2.2.2.2.2.2.2.2))), (mD, .inl (cL, 256, .inr (.inl u.2.2.2.2.2.1)))]) A) args s 0 0 A) (F0 m 230 ls []) := by
                intro vv st hst H locs hP hD hS ls hl
                refine lv_lload hx hb dX8_copies_230 (lv_at hl 0 rfl) ?_
                refine lv_lconst (v := 0) hx hb dX8_copies_232 (by decide) ?_
                refine W.lcmp hx hb dX8_copies_233 ?_
                refine lv_if_lt (tgt := 246) hx hb dX8_copies_234 (by decide) (fun c_234_9 => ?_) (fun c_234_9 => ?_)
                · have t_234_9 := c_234_9
                  try simp only [kb_eq0, kb_ne0, lg_cmp_lt, lg_cmp_le, lg_cmp_gt, lg_cmp_ge, lg_cmp_eq] at t_234_9
                  try simp only [Int32.lt_iff_toInt_lt, Int32.le_iff_toInt_le, ← Int32.toInt_inj, Int64.lt_iff_toInt_lt, Int64.le_iff_toInt_le, ← Int64.toInt_inj, Int32.toInt_toInt64, Int32.reduceToInt, Int64.reduceToInt] at t_234_9
                  refine lv_aload_n hx hb dX8_copies_246 rfl (lv_at hl 4 rfl) ?_
                  refine lv_iconst (v := 0) hx hb dX8_copies_247 (by decide) ?_
                  refine va_put (D := D) (ci := 8) (v := .int 0) (ty := .int) (C := RX8) (T := TX8) (N := 31) hx hb hts iX8_copies_X8 tyX8 tyX8_ok nmX8 hown hK hP hD hS 0 rfl rfl 12 (by decide) (hts (.fieldLink RX8 43 "TapeCalculatorModel" "chosen" "I") (List.mem_of_getElem? (i := 1) rfl)) (fun _ h9 => h9) rfl (by decide +kernel) rfl rfl (Nat.le_of_ble_eq_true rfl) dX8_copies_248 (fun H locs hP hD hS => ?_)
                  have hP : va_P D vwCl [(m0, .inr (8, [.ref mH, .int aM, .long aC, .int mM, .long mQ, .int oV, .int pL, .int lI, .int sW, .int dP, .int sT, .long aT, .int 0, .int iW, .ref mI, .ref mJ, .ref mS, .ref mD, .int iH, .int aE, .int mN, .long sZ, .ref mX, .int tS, .int tA, .int tW, .ref mA, .ref mB, .ref mW, .ref mL, .int lS])), (mH, .inl (cI, 512, .inl fH)), (mI, .inl (cL, 1200, .inr (.inl fI))), (mJ, .inl (cI, 4, .inl (k4i j0 j1 j2 j3))), (mS, .inl (cI, 4, .inl (k4i s0 st s2 s3))), (mD, .inl (cL, 256, .inr (.inl fD)))] H := hP
                  have hD : va_D A [(m0, .inr (8, [.ref mH, .int aM, .long aC, .int mM, .long mQ, .int oV, .int pL, .int lI, .int sW, .int dP, .int sT, .long aT, .int 0, .int iW, .ref mI, .ref mJ, .ref mS, .ref mD, .int iH, .int aE, .int mN, .long sZ, .ref mX, .int tS, .int tA, .int tW, .ref mA, .ref mB, .ref mW, .ref mL, .int lS])), (mH, .inl (cI, 512, .inl fH)), (mI, .inl (cL, 1200, .inr (.inl fI))), (mJ, .inl (cI, 4, .inl (k4i j0 j1 j2 j3))), (mS, .inl (cI, 4, .inl (k4i s0 st s2 s3))), (mD, .inl (cL, 256, .inr (.inl fD)))] := hD
                  refine lv_aload_n hx hb dX8_copies_251 rfl (lv_at hl 4 rfl) ?_
                  refine lv_lload hx hb dX8_copies_252 (lv_at hl 0 rfl) ?_
                  refine lv_ldc2 (v := (-2)) hx hb hown (hts (.constantLong RX8 111 (-2)) (List.mem_of_getElem? (i := 9) rfl)) dX8_copies_254 ?_
                  refine W.lcmp hx hb dX8_copies_257 ?_
                  refine lv_if_ne (tgt := 265) hx hb dX8_copies_258 (by decide) (fun c_258_10 => ?_) (fun c_258_10 => ?_)
                  · have t_258_10 := c_258_10
                    try simp only [kb_eq0, kb_ne0, lg_cmp_lt, lg_cmp_le, lg_cmp_gt, lg_cmp_ge, lg_cmp_eq] at t_258_10
                    try simp only [Int32.lt_iff_toInt_lt, Int32.le_iff_toInt_le, ← Int32.toInt_inj, Int64.lt_iff_toInt_lt, Int64.le_iff_toInt_le, ← Int64.toInt_inj, Int32.toInt_toInt64, Int32.reduceToInt, Int64.reduceToInt] at t_258_10
                    refine lv_iconst (v := 1) hx hb dX8_copies_265 (by decide) ?_
                    refine kCallVd (wr := [(mH, .inl (cI, 512, .inl fH)), (mI, .inl (cL, 1200, .inr (.inl fI))), (mJ, .inl (cI, 4, .inl (k4i j0 j1 j2 j3))), (mS, .inl (cI, 4, .inl (k4i s0 st s2 s3))), (mD, .inl (cL, 256, .inr (.inl fD)))]) (va_runV (As := [.int 1]) (rest := []) ⟨hx, hb, hml, hown, hts⟩ (q_go l D cI cL cB cZ cT _ m0 mH mI mJ mS mD mX mA mB mW mL aM aC mM mQ oV pL lI sW dP sT aT 0 iW iH aE mN sZ tS tA tW lS 1) (cwV 1 hts gX8_copies_X8_go rfl rfl rfl (by decide +kernel) ⟨Nat.le_of_ble_eq_true rfl, Nat.le_of_ble_eq_true rfl⟩) (kPreV hG hP hD [0] rfl (by decide) 0 8 rfl rfl rfl) rfl rfl hl.1 rfl (lv_room (Nat.le_of_ble_eq_true rfl)) dX8_copies_266 ⟨Nat.le_of_ble_eq_true rfl, Nat.le_of_ble_eq_true rfl⟩) hA hP hD hS [0] [1, 2, 3, 4, 5] rfl rfl (by decide) (by decide) (fun _ u_r_12 H locs wr_12 hP hD hS => ?_)
                    have hP : va_P D vwCl [(mH, .inl (cI, 512, .inl fH)), (mI, .inl (cL, 1200, .inr (.inl fI))), (mJ, .inl (cI, 4, .inl (k4i j0 j1 j2 j3))), (mS, .inl (cI, 4, .inl (k4i s0 st s2 s3))), (mD, .inl (cL, 256, .inr (.inl fD))), (m0, .inr (8, [.ref mH, .int aM, .long aC, .int mM, .long mQ, .int oV, .int u_r_12, .int lI, .int sW, .int dP, .int sT, .long aT, .int 0, .int iW, .ref mI, .ref mJ, .ref mS, .ref mD, .int iH, .int aE, .int mN, .long sZ, .ref mX, .int tS, .int tA, .int tW, .ref mA, .ref mB, .ref mW, .ref mL, .int lS]))] H := hP
                    have hD : va_D A [(mH, .inl (cI, 512, .inl fH)), (mI, .inl (cL, 1200, .inr (.inl fI))), (mJ, .inl (cI, 4, .inl (k4i j0 j1 j2 j3))), (mS, .inl (cI, 4, .inl (k4i s0 st s2 s3))), (mD, .inl (cL, 256, .inr (.inl fD))), (m0, .inr (8, [.ref mH, .int aM, .long aC, .int mM, .long mQ, .int oV, .int u_r_12, .int lI, .int sW, .int dP, .int sT, .long aT, .int 0, .int iW, .ref mI, .ref mJ, .ref mS, .ref mD, .int iH, .int aE, .int mN, .long sZ, .ref mX, .int tS, .int tA, .int tW, .ref mA, .ref mB, .ref mW, .ref mL, .int lS]))] := hD
                    try dsimp only at wr_12
                    try simp only [Int32.reduceToInt, Int64.reduceToInt] at wr_12
                    refine lv_iconst (v := 0) hx hb dX8_copies_269 (by decide) ?_
                    refine kIret (u := (u_r_12, dP, 0, iW, fH, fD, fI, j0, j1, j2, j3, s0, st, s2, s3)) hx hb hr rfl hlocks hS dX8_copies_270 ?_ (hP.sub [5, 0, 1, 2, 3, 4] rfl) (hD.sub [5, 0, 1, 2, 3, 4] (by decide) rfl)
                    try dsimp only
                    repeat' (with_reducible apply And.intro)
                    all_goals first | with_reducible assumption | ((try simp only [jT_, jP_, jD_, jC_, jB_, jW_, Int32.reduceToInt, Int64.reduceToInt, true_or, or_true, true_and, and_true]) <;> omega)
                  · have t_258_10 := c_258_10
                    try simp only [kb_eq0, kb_ne0, lg_cmp_lt, lg_cmp_le, lg_cmp_gt, lg_cmp_ge, lg_cmp_eq] at t_258_10
                    try simp only [Int32.lt_iff_toInt_lt, Int32.le_iff_toInt_le, ← Int32.toInt_inj, Int64.lt_iff_toInt_lt, Int64.le_iff_toInt_le, ← Int64.toInt_inj, Int32.toInt_toInt64, Int32.reduceToInt, Int64.reduceToInt] at t_258_10
                    refine lv_iconst (v := 2) hx hb dX8_copies_261 (by decide) ?_
                    refine lv_goto (tgt := 266) hx hb dX8_copies_262 (by decide) ?_
                    refine kCallVd (wr := [(mH, .inl (cI, 512, .inl fH)), (mI, .inl (cL, 1200, .inr (.inl fI))), (mJ, .inl (cI, 4, .inl (k4i j0 j1 j2 j3))), (mS, .inl (cI, 4, .inl (k4i s0 st s2 s3))), (mD, .inl (cL, 256, .inr (.inl fD)))]) (va_runV (As := [.int 2]) (rest := []) ⟨hx, hb, hml, hown, hts⟩ (q_go l D cI cL cB cZ cT _ m0 mH mI mJ mS mD mX mA mB mW mL aM aC mM mQ oV pL lI sW dP sT aT 0 iW iH aE mN sZ tS tA tW lS 2) (cwV 1 hts gX8_copies_X8_go rfl rfl rfl (by decide +kernel) ⟨Nat.le_of_ble_eq_true rfl, Nat.le_of_ble_eq_true rfl⟩) (kPreV hG hP hD [0] rfl (by decide) 0 8 rfl rfl rfl) rfl rfl hl.1 rfl (lv_room (Nat.le_of_ble_eq_true rfl)) dX8_copies_266 ⟨Nat.le_of_ble_eq_true rfl, Nat.le_of_ble_eq_true rfl⟩) hA hP hD hS [0] [1, 2, 3, 4, 5] rfl rfl (by decide) (by decide) (fun _ u_r_13 H locs wr_13 hP hD hS => ?_)
                    have hP : va_P D vwCl [(mH, .inl (cI, 512, .inl fH)), (mI, .inl (cL, 1200, .inr (.inl fI))), (mJ, .inl (cI, 4, .inl (k4i j0 j1 j2 j3))), (mS, .inl (cI, 4, .inl (k4i s0 st s2 s3))), (mD, .inl (cL, 256, .inr (.inl fD))), (m0, .inr (8, [.ref mH, .int aM, .long aC, .int mM, .long mQ, .int oV, .int u_r_13, .int lI, .int sW, .int dP, .int sT, .long aT, .int 0, .int iW, .ref mI, .ref mJ, .ref mS, .ref mD, .int iH, .int aE, .int mN, .long sZ, .ref mX, .int tS, .int tA, .int tW, .ref mA, .ref mB, .ref mW, .ref mL, .int lS]))] H := hP
                    have hD : va_D A [(mH, .inl (cI, 512, .inl fH)), (mI, .inl (cL, 1200, .inr (.inl fI))), (mJ, .inl (cI, 4, .inl (k4i j0 j1 j2 j3))), (mS, .inl (cI, 4, .inl (k4i s0 st s2 s3))), (mD, .inl (cL, 256, .inr (.inl fD))), (m0, .inr (8, [.ref mH, .int aM, .long aC, .int mM, .long mQ, .int oV, .int u_r_13, .int lI, .int sW, .int dP, .int sT, .long aT, .int 0, .int iW, .ref mI, .ref mJ, .ref mS, .ref mD, .int iH, .int aE, .int mN, .long sZ, .ref mX, .int tS, .int tA, .int tW, .ref mA, .ref mB, .ref mW, .ref mL, .int lS]))] := hD
                    try dsimp only at wr_13
                    try simp only [Int32.reduceToInt, Int64.reduceToInt] at wr_13
                    refine lv_iconst (v := 0) hx hb dX8_copies_269 (by decide) ?_
                    refine kIret (u := (u_r_13, dP, 0, iW, fH, fD, fI, j0, j1, j2, j3, s0, st, s2, s3)) hx hb hr rfl hlocks hS dX8_copies_270 ?_ (hP.sub [5, 0, 1, 2, 3, 4] rfl) (hD.sub [5, 0, 1, 2, 3, 4] (by decide) rfl)
                    try dsimp only
                    repeat' (with_reducible apply And.intro)
                    all_goals first | with_reducible assumption | ((try simp only [jT_, jP_, jD_, jC_, jB_, jW_, Int32.reduceToInt, Int64.reduceToInt, true_or, or_true, true_and, and_true]) <;> omega)
                · have t_234_9 := c_234_9
                  try simp only [kb_eq0, kb_ne0, lg_cmp_lt, lg_cmp_le, lg_cmp_gt, lg_cmp_ge, lg_cmp_eq] at t_234_9
                  try simp only [Int32.lt_iff_toInt_lt, Int32.le_iff_toInt_le, ← Int32.toInt_inj, Int64.lt_iff_toInt_lt, Int64.le_iff_toInt_le, ← Int64.toInt_inj, Int32.toInt_toInt64, Int32.reduceToInt, Int64.reduceToInt] at t_234_9
                  refine lv_aload_n hx hb dX8_copies_237 rfl (lv_at hl 4 rfl) ?_
                  refine lv_lload hx hb dX8_copies_238 (lv_at hl 0 rfl) ?_
                  refine kCallVd (wr := [(mI, .inl (cL, 1200, .inr (.inl fI))), (mJ, .inl (cI, 4, .inl (k4i j0 j1 j2 j3))), (mS, .inl (cI, 4, .inl (k4i s0 st s2 s3))), (mD, .inl (cL, 256, .inr (.inl fD)))]) (va_runV (As := [.long vv]) (rest := []) ⟨hx, hb, hml, hown, hts⟩ (q_store l D cI cL cB cZ cT _ m0 mH mI mJ mS mD mX mA mB mW mL aM aC mM mQ oV pL lI sW dP sT aT 6 iW iH aE mN sZ tS tA tW lS fH vv (by omega)) (cwV 1 hts gX8_copies_X8_store rfl rfl rfl (by decide +kernel) ⟨Nat.le_of_ble_eq_true rfl, Nat.le_of_ble_eq_true rfl⟩) (kPreV hG hP hD [0, 1] rfl (by decide) 0 8 rfl rfl rfl) rfl rfl hl.1 rfl (lv_room (Nat.le_of_ble_eq_true rfl)) dX8_copies_240 ⟨Nat.le_of_ble_eq_true rfl, Nat.le_of_ble_eq_true rfl⟩) hA hP hD hS [0, 1] [2, 3, 4, 5] rfl rfl (by decide) (by decide) (fun _ u_r_14 H locs wr_14 hP hD hS => ?_)
                  have hP : va_P D vwCl [(mI, .inl (cL, 1200, .inr (.inl fI))), (mJ, .inl (cI, 4, .inl (k4i j0 j1 j2 j3))), (mS, .inl (cI, 4, .inl (k4i s0 st s2 s3))), (mD, .inl (cL, 256, .inr (.inl fD))), (m0, .inr (8, [.ref mH, .int aM, .long aC, .int mM, .long mQ, .int oV, .int pL, .int lI, .int sW, .int dP, .int sT, .long aT, .int 6, .int iW, .ref mI, .ref mJ, .ref mS, .ref mD, .int iH, .int aE, .int mN, .long sZ, .ref mX, .int tS, .int tA, .int tW, .ref mA, .ref mB, .ref mW, .ref mL, .int lS])), (mH, .inl (cI, 512, .inl u_r_14))] H := hP
                  have hD : va_D A [(mI, .inl (cL, 1200, .inr (.inl fI))), (mJ, .inl (cI, 4, .inl (k4i j0 j1 j2 j3))), (mS, .inl (cI, 4, .inl (k4i s0 st s2 s3))), (mD, .inl (cL, 256, .inr (.inl fD))), (m0, .inr (8, [.ref mH, .int aM, .long aC, .int mM, .long mQ, .int oV, .int pL, .int lI, .int sW, .int dP, .int sT, .long aT, .int 6, .int iW, .ref mI, .ref mJ, .ref mS, .ref mD, .int iH, .int aE, .int mN, .long sZ, .ref mX, .int tS, .int tA, .int tW, .ref mA, .ref mB, .ref mW, .ref mL, .int lS])), (mH, .inl (cI, 512, .inl u_r_14))] := hD
                  try dsimp only at wr_14
                  try simp only [Int32.reduceToInt, Int64.reduceToInt] at wr_14
                  refine lv_goto (tgt := 269) hx hb dX8_copies_243 (by decide) ?_
                  refine lv_iconst (v := 0) hx hb dX8_copies_269 (by decide) ?_
                  refine kIret (u := (pL, dP, 6, iW, u_r_14, fD, fI, j0, j1, j2, j3, s0, st, s2, s3)) hx hb hr rfl hlocks hS dX8_copies_270 ?_ (hP.sub [4, 5, 0, 1, 2, 3] rfl) (hD.sub [4, 5, 0, 1, 2, 3] (by decide) rfl)
                  try dsimp only
                  repeat' (with_reducible apply And.intro)
                  all_goals first | with_reducible assumption | ((try simp only [jT_, jP_, jD_, jC_, jB_, jW_, Int32.reduceToInt, Int64.reduceToInt, true_or, or_true, true_and, and_true]) <;> omega)
              refine lv_iload_n hx hb dX8_copies_165 rfl (lv_at hl 0 rfl) ?_
              refine lv_i2l hx hb dX8_copies_166 rfl ?_
              refine lv_lconst (v := 0) hx hb dX8_copies_167 (by decide) ?_
              refine lv_aload_n hx hb dX8_copies_168 rfl (lv_at hl 3 rfl) ?_
              refine va_get (D := D) (ci := 8) (v := .ref mJ) (C := RX8) (T := TX8) (N := 31) hx hb hts iX8_copies_X8 hown hK hP 0 rfl rfl 15 (by decide) (hts (.fieldLink RX8 17 "TapeCalculatorModel" "items" "[I") (List.mem_of_getElem? (i := 6) rfl)) (fun _ h9 => h9) rfl dX8_copies_169 ?_
              refine lv_iload_n hx hb dX8_copies_172 rfl (lv_at hl 1 rfl) ?_
              refine va_iald hx hb hK hP 3 0 rfl rfl (vp_in_iff.mpr (by decide)) dX8_copies_173 ?_
              refine lv_topi (fun x_15 ex_15 => ?_)
              obtain rfl : j1 = x_15 := ex_15.symm
              refine lv_iconst (v := 1) hx hb dX8_copies_174 (by decide) ?_
              refine lv_isub hx hb dX8_copies_175 ?_
              refine lv_topi (fun x_16 ex_16 => ?_)
              have hs0 := k_sub (a := j1) (b := 1) (by omega) (by decide)
              simp only [Int32.reduceToInt, show (-1 : Int32).toInt = -1 from rfl] at hs0
              rw [← ex_16] at hs0
              refine lv_i2l hx hb dX8_copies_176 rfl ?_
              refine kCallI (wr := [(m0, .inr (8, [.ref mH, .int aM, .long aC, .int mM, .long mQ, .int oV, .int pL, .int lI, .int sW, .int dP, .int sT, .long aT, .int 6, .int iW, .ref mI, .ref mJ, .ref mS, .ref mD, .int iH, .int aE, .int mN, .long sZ, .ref mX, .int tS, .int tA, .int tW, .ref mA, .ref mB, .ref mW, .ref mL, .int lS])), (mH, .inl (cI, 512, .inl fH)), (mI, .inl (cL, 1200, .inr (.inl fI))), (mJ, .inl (cI, 4, .inl (k4i j0 j1 j2 j3))), (mS, .inl (cI, 4, .inl (k4i s0 s1 s2 s3))), (mD, .inl (cL, 256, .inr (.inl fD)))]) (va_runS (As := [.long x_9.toInt64, .long 0, .long x_16.toInt64]) (rest := []) ⟨hx, hb, hml, hown, hts⟩ (q_in l D cI cL cB cZ cT _ (x_9.toInt64) 0 (x_16.toInt64)) (va_cwS 3 hts gX8_copies_X8_in rfl rfl rfl (by decide +kernel) ⟨Nat.le_of_ble_eq_true rfl, Nat.le_of_ble_eq_true rfl⟩) (kPreS hG hP hD [] rfl (by decide)) rfl rfl hl.1 rfl (lv_room (Nat.le_of_ble_eq_true rfl)) dX8_copies_177 ⟨Nat.le_of_ble_eq_true rfl, Nat.le_of_ble_eq_true rfl⟩) hA hP hD hS [] [0, 1, 2, 3, 4, 5] rfl rfl (by decide) (by decide) (fun r_17 u_r_17 H locs wr_17 hP hD hS => ?_)
              have hP : va_P D vwCl [(m0, .inr (8, [.ref mH, .int aM, .long aC, .int mM, .long mQ, .int oV, .int pL, .int lI, .int sW, .int dP, .int sT, .long aT, .int 6, .int iW, .ref mI, .ref mJ, .ref mS, .ref mD, .int iH, .int aE, .int mN, .long sZ, .ref mX, .int tS, .int tA, .int tW, .ref mA, .ref mB, .ref mW, .ref mL, .int lS])), (mH, .inl (cI, 512, .inl fH)), (mI, .inl (cL, 1200, .inr (.inl fI))), (mJ, .inl (cI, 4, .inl (k4i j0 j1 j2 j3))), (mS, .inl (cI, 4, .inl (k4i s0 s1 s2 s3))), (mD, .inl (cL, 256, .inr (.inl fD)))] H := hP
              have hD : va_D A [(m0, .inr (8, [.ref mH, .int aM, .long aC, .int mM, .long mQ, .int oV, .int pL, .int lI, .int sW, .int dP, .int sT, .long aT, .int 6, .int iW, .ref mI, .ref mJ, .ref mS, .ref mD, .int iH, .int aE, .int mN, .long sZ, .ref mX, .int tS, .int tA, .int tW, .ref mA, .ref mB, .ref mW, .ref mL, .int lS])), (mH, .inl (cI, 512, .inl fH)), (mI, .inl (cL, 1200, .inr (.inl fI))), (mJ, .inl (cI, 4, .inl (k4i j0 j1 j2 j3))), (mS, .inl (cI, 4, .inl (k4i s0 s1 s2 s3))), (mD, .inl (cL, 256, .inr (.inl fD)))] := hD
              try dsimp only at wr_17
              subst wr_17
              refine lv_if_eq (tgt := 198) hx hb dX8_copies_180 (by decide) (fun c_180_17 => ?_) (fun c_180_17 => ?_)
              · have t_180_17 := c_180_17
                try simp only [kb_eq0, kb_ne0, lg_cmp_lt, lg_cmp_le, lg_cmp_gt, lg_cmp_ge, lg_cmp_eq] at t_180_17
                try simp only [Int32.lt_iff_toInt_lt, Int32.le_iff_toInt_le, ← Int32.toInt_inj, Int64.lt_iff_toInt_lt, Int64.le_iff_toInt_le, ← Int64.toInt_inj, Int32.toInt_toInt64, Int32.reduceToInt, Int64.reduceToInt] at t_180_17
                refine lv_ldc2 (v := (-9)) hx hb hown (hts (.constantLong RX8 107 (-9)) (List.mem_of_getElem? (i := 8) rfl)) dX8_copies_198 ?_
                refine lv_lstore (lv' := [(4, .long (-9)), (3, .int x_9), (2, .int 1), (1, .int 1), (0, .ref m0)]) hx hb dX8_copies_201 hl (by decide) rfl (fun ls hl => ?_)
                refine lv_lload hx hb dX8_copies_203 (lv_at hl 0 rfl) ?_
                refine lv_ldc2 (v := (-9)) hx hb hown (hts (.constantLong RX8 107 (-9)) (List.mem_of_getElem? (i := 8) rfl)) dX8_copies_205 ?_
                refine W.lcmp hx hb dX8_copies_208 ?_
                refine lv_topi (fun x_19 ex_19 => ?_)
                obtain rfl : x_19 = 0 := ex_19.trans (by decide)
                refine lv_if_eq (tgt := 230) hx hb dX8_copies_209 (by decide) (fun c_209_19 => ?_) (fun c_209_19 => ?_)
                · have t_209_19 := c_209_19
                  try simp only [kb_eq0, kb_ne0, lg_cmp_lt, lg_cmp_le, lg_cmp_gt, lg_cmp_ge, lg_cmp_eq] at t_209_19
                  try simp only [Int32.lt_iff_toInt_lt, Int32.le_iff_toInt_le, ← Int32.toInt_inj, Int64.lt_iff_toInt_lt, Int64.le_iff_toInt_le, ← Int64.toInt_inj, Int32.toInt_toInt64, Int32.reduceToInt, Int64.reduceToInt] at t_209_19
                  exact J230 (-9) s1 (by first | with_reducible assumption | ((try simp only [jT_, jP_, jD_, jC_, jB_, jW_, Int32.reduceToInt, Int64.reduceToInt, true_or, or_true, true_and, and_true]) <;> omega)) _ _ (hP.sub [0, 1, 2, 3, 4, 5] rfl) (hD.sub [0, 1, 2, 3, 4, 5] (by decide) rfl) hS ls (lv_sub hl [0, 1, 2, 3, 4] rfl)
                · exact absurd (by decide) c_209_19
              · have t_180_17 := c_180_17
                try simp only [kb_eq0, kb_ne0, lg_cmp_lt, lg_cmp_le, lg_cmp_gt, lg_cmp_ge, lg_cmp_eq] at t_180_17
                try simp only [Int32.lt_iff_toInt_lt, Int32.le_iff_toInt_le, ← Int32.toInt_inj, Int64.lt_iff_toInt_lt, Int64.le_iff_toInt_le, ← Int64.toInt_inj, Int32.toInt_toInt64, Int32.reduceToInt, Int64.reduceToInt] at t_180_17
                refine lv_aload_n hx hb dX8_copies_183 rfl (lv_at hl 3 rfl) ?_
                refine va_get (D := D) (ci := 8) (v := .ref mI) (C := RX8) (T := TX8) (N := 31) hx hb hts iX8_copies_X8 hown hK hP 0 rfl rfl 14 (by decide) (hts (.fieldLink RX8 13 "TapeCalculatorModel" "item" "[J") (List.mem_of_getElem? (i := 7) rfl)) (fun _ h9 => h9) rfl dX8_copies_184 ?_
                refine lv_sipush (v := 300) hx hb dX8_copies_187 (by decide) ?_
                refine lv_iload_n hx hb dX8_copies_190 rfl (lv_at hl 1 rfl) ?_
                refine lv_imul hx hb dX8_copies_191 ?_
                refine lv_topi (fun x_21 ex_21 => ?_)
                obtain rfl : x_21 = 300 := ex_21.trans (by decide)
                refine lv_iload_n hx hb dX8_copies_192 rfl (lv_at hl 0 rfl) ?_
                refine lv_iadd hx hb dX8_copies_193 ?_
                refine va_lald hx hb hK hP 2 1 rfl rfl (vp_in_iff.mpr (by have hx9 := k_addg (a := 300) (b := x_9) (by decide) (by omega); simp only [Int32.reduceToInt] at hx9; omega)) dX8_copies_194 ?_
                refine lv_goto (tgt := 201) hx hb dX8_copies_195 (by decide) ?_
                refine lv_topl (fun x_22 ex_22 => ?_)
                refine lv_lstore (lv' := [(4, .long x_22), (3, .int x_9), (2, .int 1), (1, .int 1), (0, .ref m0)]) hx hb dX8_copies_201 hl (by decide) rfl (fun ls hl => ?_)
                refine lv_lload hx hb dX8_copies_203 (lv_at hl 0 rfl) ?_
                refine lv_ldc2 (v := (-9)) hx hb hown (hts (.constantLong RX8 107 (-9)) (List.mem_of_getElem? (i := 8) rfl)) dX8_copies_205 ?_
                refine W.lcmp hx hb dX8_copies_208 ?_
                refine lv_if_eq (tgt := 230) hx hb dX8_copies_209 (by decide) (fun c_209_22 => ?_) (fun c_209_22 => ?_)
                · have t_209_22 := c_209_22
                  try simp only [kb_eq0, kb_ne0, lg_cmp_lt, lg_cmp_le, lg_cmp_gt, lg_cmp_ge, lg_cmp_eq] at t_209_22
                  try simp only [Int32.lt_iff_toInt_lt, Int32.le_iff_toInt_le, ← Int32.toInt_inj, Int64.lt_iff_toInt_lt, Int64.le_iff_toInt_le, ← Int64.toInt_inj, Int32.toInt_toInt64, Int32.reduceToInt, Int64.reduceToInt] at t_209_22
                  exact J230 x_22 s1 (by first | with_reducible assumption | ((try simp only [jT_, jP_, jD_, jC_, jB_, jW_, Int32.reduceToInt, Int64.reduceToInt, true_or, or_true, true_and, and_true]) <;> omega)) _ _ (hP.sub [0, 1, 2, 3, 4, 5] rfl) (hD.sub [0, 1, 2, 3, 4, 5] (by decide) rfl) hS ls (lv_sub hl [0, 1, 2, 3, 4] rfl)
                · have t_209_22 := c_209_22
                  try simp only [kb_eq0, kb_ne0, lg_cmp_lt, lg_cmp_le, lg_cmp_gt, lg_cmp_ge, lg_cmp_eq] at t_209_22
                  try simp only [Int32.lt_iff_toInt_lt, Int32.le_iff_toInt_le, ← Int32.toInt_inj, Int64.lt_iff_toInt_lt, Int64.le_iff_toInt_le, ← Int64.toInt_inj, Int32.toInt_toInt64, Int32.reduceToInt, Int64.reduceToInt] at t_209_22
                  refine lv_aload_n hx hb dX8_copies_212 rfl (lv_at hl 4 rfl) ?_
                  refine va_get (D := D) (ci := 8) (v := .ref mS) (C := RX8) (T := TX8) (N := 31) hx hb hts iX8_copies_X8 hown hK hP 0 rfl rfl 16 (by decide) (hts (.fieldLink RX8 20 "TapeCalculatorModel" "stands" "[I") (List.mem_of_getElem? (i := 5) rfl)) (fun _ h9 => h9) rfl dX8_copies_213 ?_
                  refine lv_iload_n hx hb dX8_copies_216 rfl (lv_at hl 2 rfl) ?_
                  refine lv_dup2_11 hx hb dX8_copies_217 rfl rfl ?_
                  refine va_iald hx hb hK hP 4 0 rfl rfl (vp_in_iff.mpr (by decide)) dX8_copies_218 ?_
                  refine lv_topi (fun x_24 ex_24 => ?_)
                  obtain rfl : s1 = x_24 := ex_24.symm
                  refine lv_iload_n hx hb dX8_copies_219 rfl (lv_at hl 3 rfl) ?_
                  refine lv_if_eq (tgt := 227) hx hb dX8_copies_220 (by decide) (fun c_220_24 => ?_) (fun c_220_24 => ?_)
                  · exact absurd c_220_24 (by decide)
                  · have t_220_24 := c_220_24
                    try simp only [kb_eq0, kb_ne0, lg_cmp_lt, lg_cmp_le, lg_cmp_gt, lg_cmp_ge, lg_cmp_eq] at t_220_24
                    try simp only [Int32.lt_iff_toInt_lt, Int32.le_iff_toInt_le, ← Int32.toInt_inj, Int64.lt_iff_toInt_lt, Int64.le_iff_toInt_le, ← Int64.toInt_inj, Int32.toInt_toInt64, Int32.reduceToInt, Int64.reduceToInt] at t_220_24
                    refine lv_iconst (v := (-1)) hx hb dX8_copies_223 (by decide) ?_
                    refine lv_goto (tgt := 228) hx hb dX8_copies_224 (by decide) ?_
                    refine lv_iadd hx hb dX8_copies_228 ?_
                    refine lv_topi (fun x_26 ex_26 => ?_)
                    have hs2 := k_addg (a := s1) (b := (-1)) (by omega) (by decide)
                    simp only [Int32.reduceToInt, show (-1 : Int32).toInt = -1 from rfl] at hs2
                    rw [← ex_26] at hs2
                    refine va_iast hx hb hK hP hD hS 4 0 rfl rfl (vp_in_iff.mpr (by decide)) dX8_copies_229 (fun H locs hP hD hS => ?_)
                    rw [k4i_1] at hP hD
                    have hP : va_P D vwCl [(m0, .inr (8, [.ref mH, .int aM, .long aC, .int mM, .long mQ, .int oV, .int pL, .int lI, .int sW, .int dP, .int sT, .long aT, .int 6, .int iW, .ref mI, .ref mJ, .ref mS, .ref mD, .int iH, .int aE, .int mN, .long sZ, .ref mX, .int tS, .int tA, .int tW, .ref mA, .ref mB, .ref mW, .ref mL, .int lS])), (mH, .inl (cI, 512, .inl fH)), (mI, .inl (cL, 1200, .inr (.inl fI))), (mJ, .inl (cI, 4, .inl (k4i j0 j1 j2 j3))), (mS, .inl (cI, 4, .inl (k4i s0 x_26 s2 s3))), (mD, .inl (cL, 256, .inr (.inl fD)))] H := hP
                    have hD : va_D A [(m0, .inr (8, [.ref mH, .int aM, .long aC, .int mM, .long mQ, .int oV, .int pL, .int lI, .int sW, .int dP, .int sT, .long aT, .int 6, .int iW, .ref mI, .ref mJ, .ref mS, .ref mD, .int iH, .int aE, .int mN, .long sZ, .ref mX, .int tS, .int tA, .int tW, .ref mA, .ref mB, .ref mW, .ref mL, .int lS])), (mH, .inl (cI, 512, .inl fH)), (mI, .inl (cL, 1200, .inr (.inl fI))), (mJ, .inl (cI, 4, .inl (k4i j0 j1 j2 j3))), (mS, .inl (cI, 4, .inl (k4i s0 x_26 s2 s3))), (mD, .inl (cL, 256, .inr (.inl fD)))] := hD
                    exact J230 x_22 x_26 (by first | with_reducible assumption | ((try simp only [jT_, jP_, jD_, jC_, jB_, jW_, Int32.reduceToInt, Int64.reduceToInt, true_or, or_true, true_and, and_true]) <;> omega)) _ _ (hP.sub [0, 1, 2, 3, 4, 5] rfl) (hD.sub [0, 1, 2, 3, 4, 5] (by decide) rfl) hS ls (lv_sub hl [0, 1, 2, 3, 4] rfl)
      · exact absurd (by decide) c_79_2
    · exact absurd (by decide) c_16_1
  · exact absurd c_4_0 (by decide)
set_option maxRecDepth 100000 in
set_option maxHeartbeats 4000000 in
theorem q_copies_7 (l : Launch) (D : va_G) (cI cL cB cZ cT : ClassId) (sz : Nat) (m0 mH mI mJ mS mD mX mA mB mW mL : Nat) (aM : Int32) (aC : Int64) (mM : Int32) (mQ : Int64) (oV pL lI sW dP sT : Int32) (aT : Int64) (iW iH aE mN : Int32) (sZ : Int64) (tS tA tW lS : Int32) (fH : Nat → Int32) (fI : Nat → Int64) (j0 j1 j2 j3 : Int32) (s0 s1 s2 s3 : Int32) (fD : Nat → Int64) (hpl : jP_ pL) (hdp : jD_ dP) (hch : jC_ 7) (hiw : jW_ iW 7) (ht0 : jT_ s0 j0) (ht1 : jT_ s1 j1) (ht2 : jT_ s2 j2) (ht3 : jT_ s3 j3) (had : 0 ≤ aE.toInt ∧ aE.toInt ≤ 511 ∧ (iH.toInt = 0 ∨ aE.toInt ≤ 510)) : kM (S := (Int32 × Int32 × Int32 × Int32 × (Nat → Int32) × (Nat → Int64) × (Nat → Int64) × Int32 × Int32 × Int32 × Int32 × Int32 × Int32 × Int32 × Int32)) l yX8_copies wsX8_copies ({ frames := 2, cells := 0, slots := 0, locals := 45 }) D (kT cI cL cB cZ cT) [.ref m0] [(m0, .inr (8, [.ref mH, .int aM, .long aC, .int mM, .long mQ, .int oV, .int pL, .int lI, .int sW, .int dP, .int sT, .long aT, .int 7, .int iW, .ref mI, .ref mJ, .ref mS, .ref mD, .int iH, .int aE, .int mN, .long sZ, .ref mX, .int tS, .int tA, .int tW, .ref mA, .ref mB, .ref mW, .ref mL, .int lS])), (mH, .inl (cI, 512, .inl fH)), (mI, .inl (cL, 1200, .inr (.inl fI))), (mJ, .inl (cI, 4, .inl (k4i j0 j1 j2 j3))), (mS, .inl (cI, 4, .inl (k4i s0 s1 s2 s3))), (mD, .inl (cL, 256, .inr (.inl fD)))] sz eI (fun r u => (0 ≤ r.toInt ∧ r.toInt ≤ 6) ∧ jP_ (u.1) ∧ jD_ (u.2.1) ∧ jC_ (u.2.2.1) ∧ jW_ (u.2.2.2.1) (u.2.2.1) ∧ jT_ (u.2.2.2.2.2.2.2.2.2.2.2.1) (u.2.2.2.2.2.2.2.1) ∧ jT_ (u.2.2.2.2.2.2.2.2.2.2.2.2.1) (u.2.2.2.2.2.2.2.2.1) ∧ jT_ (u.2.2.2.2.2.2.2.2.2.2.2.2.2.1) (u.2.2.2.2.2.2.2.2.2.1) ∧ jT_ (u.2.2.2.2.2.2.2.2.2.2.2.2.2.2) (u.2.2.2.2.2.2.2.2.2.2.1)) (fun u => [(m0, .inr (8, [.ref mH, .int aM, .long aC, .int mM, .long mQ, .int oV, .int u.1, .int lI, .int sW, .int u.2.1, .int sT, .long aT, .int u.2.2.1, .int u.2.2.2.1, .ref mI, .ref mJ, .ref mS, .ref mD, .int iH, .int aE, .int mN, .long sZ, .ref mX, .int tS, .int tA, .int tW, .ref mA, .ref mB, .ref mW, .ref mL, .int lS])), (mH, .inl (cI, 512, .inl u.2.2.2.2.1)), (mI, .inl (cL, 1200, .inr (.inl u.2.2.2.2.2.2.1))), (mJ, .inl (cI, 4, .inl (k4i u.2.2.2.2.2.2.2.1 u.2.2.2.2.2.2.2.2.1 u.2.2.2.2.2.2.2.2.2.1 u.2.2.2.2.2.2.2.2.2.2.1))), (mS, .inl (cI, 4, .inl (k4i u.2.2.2.2.2.2.2.2.2.2.2.1 u.2.2.2.2.2.2.2.2.2.2.2.2.1 u.2.2.2.2.2.2.2.2.2.2.2.2.2.1 u.2.2.2.2.2.2.2.2.2.2.2.2.2.2))), (mD, .inl (cL, 256, .inr (.inl u.2.2.2.2.2.1)))]) 0 0 := by
  refine kStart (cc := cX8_copies) (maxL := 6) (ret := (some .int)) (own := RX8) (by decide) rfl rfl (Nat.le_of_ble_eq_true rfl) ?_
  intro p e s m args below meth c A ls hx hb hr hml hown hts hlocks hnm hsz hA hG hP hD hS hl
  have hK := hG.1
  have hl : lv_has ls 6 [(0, .ref m0)] := hl
  have hiw1 : iW.toInt = 0 := by simp only [jW_, Int32.reduceToInt] at hiw; omega
  have hu2 : 0 ≤ s2.toInt ∧ s2.toInt ≤ j2.toInt ∧ j2.toInt ≤ 300 := ht2
  refine lv_aload_n hx hb dX8_copies_0 rfl (lv_at hl 0 rfl) ?_
  refine va_get (D := D) (ci := 8) (v := .int 7) (C := RX8) (T := TX8) (N := 31) hx hb hts iX8_copies_X8 hown hK hP 0 rfl rfl 12 (by decide) (hts (.fieldLink RX8 43 "TapeCalculatorModel" "chosen" "I") (List.mem_of_getElem? (i := 1) rfl)) (fun _ h9 => h9) rfl dX8_copies_1 ?_
  refine lv_if_ne (tgt := 10) hx hb dX8_copies_4 (by decide) (fun c_4_0 => ?_) (fun c_4_0 => ?_)
  · have t_4_0 := c_4_0
    try simp only [kb_eq0, kb_ne0, lg_cmp_lt, lg_cmp_le, lg_cmp_gt, lg_cmp_ge, lg_cmp_eq] at t_4_0
    try simp only [Int32.lt_iff_toInt_lt, Int32.le_iff_toInt_le, ← Int32.toInt_inj, Int64.lt_iff_toInt_lt, Int64.le_iff_toInt_le, ← Int64.toInt_inj, Int32.toInt_toInt64, Int32.reduceToInt, Int64.reduceToInt] at t_4_0
    refine lv_aload_n hx hb dX8_copies_10 rfl (lv_at hl 0 rfl) ?_
    refine va_get (D := D) (ci := 8) (v := .int 7) (C := RX8) (T := TX8) (N := 31) hx hb hts iX8_copies_X8 hown hK hP 0 rfl rfl 12 (by decide) (hts (.fieldLink RX8 43 "TapeCalculatorModel" "chosen" "I") (List.mem_of_getElem? (i := 1) rfl)) (fun _ h9 => h9) rfl dX8_copies_11 ?_
    refine lv_bipush (v := 12) hx hb dX8_copies_14 (by decide) ?_
    refine lv_icmp_le (tgt := 73) hx hb dX8_copies_16 (by decide) (fun c_16_1 => ?_) (fun c_16_1 => ?_)
    · have t_16_1 := c_16_1
      try simp only [kb_eq0, kb_ne0, lg_cmp_lt, lg_cmp_le, lg_cmp_gt, lg_cmp_ge, lg_cmp_eq] at t_16_1
      try simp only [Int32.lt_iff_toInt_lt, Int32.le_iff_toInt_le, ← Int32.toInt_inj, Int64.lt_iff_toInt_lt, Int64.le_iff_toInt_le, ← Int64.toInt_inj, Int32.toInt_toInt64, Int32.reduceToInt, Int64.reduceToInt] at t_16_1
      refine lv_aload_n hx hb dX8_copies_73 rfl (lv_at hl 0 rfl) ?_
      refine va_get (D := D) (ci := 8) (v := .int 7) (C := RX8) (T := TX8) (N := 31) hx hb hts iX8_copies_X8 hown hK hP 0 rfl rfl 12 (by decide) (hts (.fieldLink RX8 43 "TapeCalculatorModel" "chosen" "I") (List.mem_of_getElem? (i := 1) rfl)) (fun _ h9 => h9) rfl dX8_copies_74 ?_
      refine lv_bipush (v := 8) hx hb dX8_copies_77 (by decide) ?_
      refine lv_icmp_le (tgt := 109) hx hb dX8_copies_79 (by decide) (fun c_79_2 => ?_) (fun c_79_2 => ?_)
      · have t_79_2 := c_79_2
        try simp only [kb_eq0, kb_ne0, lg_cmp_lt, lg_cmp_le, lg_cmp_gt, lg_cmp_ge, lg_cmp_eq] at t_79_2
        try simp only [Int32.lt_iff_toInt_lt, Int32.le_iff_toInt_le, ← Int32.toInt_inj, Int64.lt_iff_toInt_lt, Int64.le_iff_toInt_le, ← Int64.toInt_inj, Int32.toInt_toInt64, Int32.reduceToInt, Int64.reduceToInt] at t_79_2
        refine lv_aload_n hx hb dX8_copies_109 rfl (lv_at hl 0 rfl) ?_
        refine va_get (D := D) (ci := 8) (v := .int 7) (C := RX8) (T := TX8) (N := 31) hx hb hts iX8_copies_X8 hown hK hP 0 rfl rfl 12 (by decide) (hts (.fieldLink RX8 43 "TapeCalculatorModel" "chosen" "I") (List.mem_of_getElem? (i := 1) rfl)) (fun _ h9 => h9) rfl dX8_copies_110 ?_
        refine lv_iconst (v := 4) hx hb dX8_copies_113 (by decide) ?_
        refine lv_icmp_le (tgt := 121) hx hb dX8_copies_114 (by decide) (fun c_114_3 => ?_) (fun c_114_3 => ?_)
        · exact absurd c_114_3 (by decide)
        · have t_114_3 := c_114_3
          try simp only [kb_eq0, kb_ne0, lg_cmp_lt, lg_cmp_le, lg_cmp_gt, lg_cmp_ge, lg_cmp_eq] at t_114_3
          try simp only [Int32.lt_iff_toInt_lt, Int32.le_iff_toInt_le, ← Int32.toInt_inj, Int64.lt_iff_toInt_lt, Int64.le_iff_toInt_le, ← Int64.toInt_inj, Int32.toInt_toInt64, Int32.reduceToInt, Int64.reduceToInt] at t_114_3
          refine lv_iconst (v := 1) hx hb dX8_copies_117 (by decide) ?_
          refine lv_goto (tgt := 122) hx hb dX8_copies_118 (by decide) ?_
          refine lv_istore_n (lv' := [(1, .int 1), (0, .ref m0)]) hx hb dX8_copies_122 rfl hl (by decide) rfl (fun ls hl => ?_)
          refine lv_iload_n hx hb dX8_copies_123 rfl (lv_at hl 0 rfl) ?_
          refine lv_if_eq (tgt := 136) hx hb dX8_copies_124 (by decide) (fun c_124_4 => ?_) (fun c_124_4 => ?_)
          · exact absurd c_124_4 (by decide)
          · have t_124_4 := c_124_4
            try simp only [kb_eq0, kb_ne0, lg_cmp_lt, lg_cmp_le, lg_cmp_gt, lg_cmp_ge, lg_cmp_eq] at t_124_4
            try simp only [Int32.lt_iff_toInt_lt, Int32.le_iff_toInt_le, ← Int32.toInt_inj, Int64.lt_iff_toInt_lt, Int64.le_iff_toInt_le, ← Int64.toInt_inj, Int32.toInt_toInt64, Int32.reduceToInt, Int64.reduceToInt] at t_124_4
            refine lv_aload_n hx hb dX8_copies_127 rfl (lv_at hl 1 rfl) ?_
            refine va_get (D := D) (ci := 8) (v := .int 7) (C := RX8) (T := TX8) (N := 31) hx hb hts iX8_copies_X8 hown hK hP 0 rfl rfl 12 (by decide) (hts (.fieldLink RX8 43 "TapeCalculatorModel" "chosen" "I") (List.mem_of_getElem? (i := 1) rfl)) (fun _ h9 => h9) rfl dX8_copies_128 ?_
            refine lv_iconst (v := 5) hx hb dX8_copies_131 (by decide) ?_
            refine lv_isub hx hb dX8_copies_132 ?_
            refine lv_topi (fun x_6 ex_6 => ?_)
            obtain rfl : x_6 = 2 := ex_6.trans (by decide)
            refine lv_goto (tgt := 142) hx hb dX8_copies_133 (by decide) ?_
            refine lv_istore_n (lv' := [(2, .int 2), (1, .int 1), (0, .ref m0)]) hx hb dX8_copies_142 rfl hl (by decide) rfl (fun ls hl => ?_)
            refine lv_iload_n hx hb dX8_copies_143 rfl (lv_at hl 1 rfl) ?_
            refine lv_if_eq (tgt := 158) hx hb dX8_copies_144 (by decide) (fun c_144_6 => ?_) (fun c_144_6 => ?_)
            · exact absurd c_144_6 (by decide)
            · have t_144_6 := c_144_6
              try simp only [kb_eq0, kb_ne0, lg_cmp_lt, lg_cmp_le, lg_cmp_gt, lg_cmp_ge, lg_cmp_eq] at t_144_6
              try simp only [Int32.lt_iff_toInt_lt, Int32.le_iff_toInt_le, ← Int32.toInt_inj, Int64.lt_iff_toInt_lt, Int64.le_iff_toInt_le, ← Int64.toInt_inj, Int32.toInt_toInt64, Int32.reduceToInt, Int64.reduceToInt] at t_144_6
              refine lv_aload_n hx hb dX8_copies_147 rfl (lv_at hl 2 rfl) ?_
              refine va_get (D := D) (ci := 8) (v := .ref mS) (C := RX8) (T := TX8) (N := 31) hx hb hts iX8_copies_X8 hown hK hP 0 rfl rfl 16 (by decide) (hts (.fieldLink RX8 20 "TapeCalculatorModel" "stands" "[I") (List.mem_of_getElem? (i := 5) rfl)) (fun _ h9 => h9) rfl dX8_copies_148 ?_
              refine lv_iload_n hx hb dX8_copies_151 rfl (lv_at hl 0 rfl) ?_
              refine va_iald hx hb hK hP 4 0 rfl rfl (vp_in_iff.mpr (by decide)) dX8_copies_152 ?_
              refine lv_topi (fun x_8 ex_8 => ?_)
              obtain rfl : s2 = x_8 := ex_8.symm
              refine lv_iconst (v := 1) hx hb dX8_copies_153 (by decide) ?_
              refine lv_isub hx hb dX8_copies_154 ?_
              refine lv_topi (fun x_9 ex_9 => ?_)
              have hs1 := k_sub (a := s2) (b := 1) (by omega) (by decide)
              simp only [Int32.reduceToInt, show (-1 : Int32).toInt = -1 from rfl] at hs1
              rw [← ex_9] at hs1
              refine lv_goto (tgt := 164) hx hb dX8_copies_155 (by decide) ?_
              refine lv_istore_n (lv' := [(3, .int x_9), (2, .int 2), (1, .int 1), (0, .ref m0)]) hx hb dX8_copies_164 rfl hl (by decide) rfl (fun ls hl => ?_)
              have J230 : ∀ (vv : Int64) (st : Int32), jT_ st j2 → ∀ (H : Heap) (locs : List Loc), va_P D vwCl [(m0, .inr (8, [.ref mH, .int aM, .long aC, .int mM, .long mQ, .int oV, .int pL, .int lI, .int sW, .int dP, .int sT, .long aT, .int 7, .int iW, .ref mI, .ref mJ, .ref mS, .ref mD, .int iH, .int aE, .int mN, .long sZ, .ref mX, .int tS, .int tA, .int tW, .ref mA, .ref mB, .ref mW, .ref mL, .int lS])), (mH, .inl (cI, 512, .inl fH)), (mI, .inl (cL, 1200, .inr (.inl fI))), (mJ, .inl (cI, 4, .inl (k4i j0 j1 j2 j3))), (mS, .inl (cI, 4, .inl (k4i s0 s1 st s3))), (mD, .inl (cL, 256, .inr (.inl fD)))] H → va_D A [(m0, .inr (8, [.ref mH, .int aM, .long aC, .int mM, .long mQ, .int oV, .int pL, .int lI, .int sW, .int dP, .int sT, .long aT, .int 7, .int iW, .ref mI, .ref mJ, .ref mS, .ref mD, .int iH, .int aE, .int mN, .long sZ, .ref mX, .int tS, .int tA, .int tW, .ref mA, .ref mB, .ref mW, .ref mL, .int lS])), (mH, .inl (cI, 512, .inl fH)), (mI, .inl (cL, 1200, .inr (.inl fI))), (mJ, .inl (cI, 4, .inl (k4i j0 j1 j2 j3))), (mS, .inl (cI, 4, .inl (k4i s0 s1 st s3))), (mD, .inl (cL, 256, .inr (.inl fD)))] → va_S A s.heap H locs → ∀ ls : Array Slot, lv_has ls 6 [(4, .long vv), (3, .int x_9), (2, .int 2), (1, .int 1), (0, .ref m0)] → W p l e ({ frames := 2, cells := 0, slots := 0, locals := 45 }) s m args below meth c H locs 0 0 (MQ below (kQ (S := (Int32 × Int32 × Int32 × Int32 × (Nat → Int32) × (Nat → Int64) × (Nat → Int64) × Int32 × Int32 × Int32 × Int32 × Int32 × Int32 × Int32 × Int32)) eI (fun r u => (0 ≤ r.toInt ∧ r.toInt ≤ 6) ∧ jP_ (u.1) ∧ jD_ (u.2.1) ∧ jC_ (u.2.2.1) ∧ jW_ (u.2.2.2.1) (u.2.2.1) ∧ jT_ (u.2.2.2.2.2.2.2.2.2.2.2.1) (u.2.2.2.2.2.2.2.1) ∧ jT_ (u.2.2.2.2.2.2.2.2.2.2.2.2.1) (u.2.2.2.2.2.2.2.2.1) ∧ jT_ (u.2.2.2.2.2.2.2.2.2.2.2.2.2.1) (u.2.2.2.2.2.2.2.2.2.1) ∧ jT_ (u.2.2.2.2.2.2.2.2.2.2.2.2.2.2) (u.2.2.2.2.2.2.2.2.2.2.1)) D (fun u => [(m0, .inr (8, [.ref mH, .int aM, .long aC, .int mM, .long mQ, .int oV, .int u.1, .int lI, .int sW, .int u.2.1, .int sT, .long aT, .int u.2.2.1, .int u.2.2.2.1, .ref mI, .ref mJ, .ref mS, .ref mD, .int iH, .int aE, .int mN, .long sZ, .ref mX, .int tS, .int tA, .int tW, .ref mA, .ref mB, .ref mW, .ref mL, .int lS])), (mH, .inl (cI, 512, .inl u.2.2.2.2.1)), (mI, .inl (cL, 1200, .inr (.inl u.2.2.2.2.2.2.1))), (mJ, .inl (cI, 4, .inl (k4i u.2.2.2.2.2.2.2.1 u.2.2.2.2.2.2.2.2.1 u.2.2.2.2.2.2.2.2.2.1 u.2.2.2.2.2.2.2.2.2.2.1))), (mS, .inl (cI, 4, .inl (k4i u.2.2.2.2.2.2.2.2.2.2.2.1 u.2.2.2.2.2.2.2.2.2.2.2.2.1 u.2.2.2.2.2.2.2.2.2.2.2.2.2.1 u.2.2.2.2.2.2.2.2.2.2.2.2.2.2))), (mD, .inl (cL, 256, .inr (.inl u.2.2.2.2.2.1)))]) A) args s 0 0 A) (F0 m 230 ls []) := by
                intro vv st hst H locs hP hD hS ls hl
                refine lv_lload hx hb dX8_copies_230 (lv_at hl 0 rfl) ?_
                refine lv_lconst (v := 0) hx hb dX8_copies_232 (by decide) ?_
                refine W.lcmp hx hb dX8_copies_233 ?_
                refine lv_if_lt (tgt := 246) hx hb dX8_copies_234 (by decide) (fun c_234_9 => ?_) (fun c_234_9 => ?_)
                · have t_234_9 := c_234_9
                  try simp only [kb_eq0, kb_ne0, lg_cmp_lt, lg_cmp_le, lg_cmp_gt, lg_cmp_ge, lg_cmp_eq] at t_234_9
                  try simp only [Int32.lt_iff_toInt_lt, Int32.le_iff_toInt_le, ← Int32.toInt_inj, Int64.lt_iff_toInt_lt, Int64.le_iff_toInt_le, ← Int64.toInt_inj, Int32.toInt_toInt64, Int32.reduceToInt, Int64.reduceToInt] at t_234_9
                  refine lv_aload_n hx hb dX8_copies_246 rfl (lv_at hl 4 rfl) ?_
                  refine lv_iconst (v := 0) hx hb dX8_copies_247 (by decide) ?_
                  refine va_put (D := D) (ci := 8) (v := .int 0) (ty := .int) (C := RX8) (T := TX8) (N := 31) hx hb hts iX8_copies_X8 tyX8 tyX8_ok nmX8 hown hK hP hD hS 0 rfl rfl 12 (by decide) (hts (.fieldLink RX8 43 "TapeCalculatorModel" "chosen" "I") (List.mem_of_getElem? (i := 1) rfl)) (fun _ h9 => h9) rfl (by decide +kernel) rfl rfl (Nat.le_of_ble_eq_true rfl) dX8_copies_248 (fun H locs hP hD hS => ?_)
                  have hP : va_P D vwCl [(m0, .inr (8, [.ref mH, .int aM, .long aC, .int mM, .long mQ, .int oV, .int pL, .int lI, .int sW, .int dP, .int sT, .long aT, .int 0, .int iW, .ref mI, .ref mJ, .ref mS, .ref mD, .int iH, .int aE, .int mN, .long sZ, .ref mX, .int tS, .int tA, .int tW, .ref mA, .ref mB, .ref mW, .ref mL, .int lS])), (mH, .inl (cI, 512, .inl fH)), (mI, .inl (cL, 1200, .inr (.inl fI))), (mJ, .inl (cI, 4, .inl (k4i j0 j1 j2 j3))), (mS, .inl (cI, 4, .inl (k4i s0 s1 st s3))), (mD, .inl (cL, 256, .inr (.inl fD)))] H := hP
                  have hD : va_D A [(m0, .inr (8, [.ref mH, .int aM, .long aC, .int mM, .long mQ, .int oV, .int pL, .int lI, .int sW, .int dP, .int sT, .long aT, .int 0, .int iW, .ref mI, .ref mJ, .ref mS, .ref mD, .int iH, .int aE, .int mN, .long sZ, .ref mX, .int tS, .int tA, .int tW, .ref mA, .ref mB, .ref mW, .ref mL, .int lS])), (mH, .inl (cI, 512, .inl fH)), (mI, .inl (cL, 1200, .inr (.inl fI))), (mJ, .inl (cI, 4, .inl (k4i j0 j1 j2 j3))), (mS, .inl (cI, 4, .inl (k4i s0 s1 st s3))), (mD, .inl (cL, 256, .inr (.inl fD)))] := hD
                  refine lv_aload_n hx hb dX8_copies_251 rfl (lv_at hl 4 rfl) ?_
                  refine lv_lload hx hb dX8_copies_252 (lv_at hl 0 rfl) ?_
                  refine lv_ldc2 (v := (-2)) hx hb hown (hts (.constantLong RX8 111 (-2)) (List.mem_of_getElem? (i := 9) rfl)) dX8_copies_254 ?_
                  refine W.lcmp hx hb dX8_copies_257 ?_
                  refine lv_if_ne (tgt := 265) hx hb dX8_copies_258 (by decide) (fun c_258_10 => ?_) (fun c_258_10 => ?_)
                  · have t_258_10 := c_258_10
                    try simp only [kb_eq0, kb_ne0, lg_cmp_lt, lg_cmp_le, lg_cmp_gt, lg_cmp_ge, lg_cmp_eq] at t_258_10
                    try simp only [Int32.lt_iff_toInt_lt, Int32.le_iff_toInt_le, ← Int32.toInt_inj, Int64.lt_iff_toInt_lt, Int64.le_iff_toInt_le, ← Int64.toInt_inj, Int32.toInt_toInt64, Int32.reduceToInt, Int64.reduceToInt] at t_258_10
                    refine lv_iconst (v := 1) hx hb dX8_copies_265 (by decide) ?_
                    refine kCallVd (wr := [(mH, .inl (cI, 512, .inl fH)), (mI, .inl (cL, 1200, .inr (.inl fI))), (mJ, .inl (cI, 4, .inl (k4i j0 j1 j2 j3))), (mS, .inl (cI, 4, .inl (k4i s0 s1 st s3))), (mD, .inl (cL, 256, .inr (.inl fD)))]) (va_runV (As := [.int 1]) (rest := []) ⟨hx, hb, hml, hown, hts⟩ (q_go l D cI cL cB cZ cT _ m0 mH mI mJ mS mD mX mA mB mW mL aM aC mM mQ oV pL lI sW dP sT aT 0 iW iH aE mN sZ tS tA tW lS 1) (cwV 1 hts gX8_copies_X8_go rfl rfl rfl (by decide +kernel) ⟨Nat.le_of_ble_eq_true rfl, Nat.le_of_ble_eq_true rfl⟩) (kPreV hG hP hD [0] rfl (by decide) 0 8 rfl rfl rfl) rfl rfl hl.1 rfl (lv_room (Nat.le_of_ble_eq_true rfl)) dX8_copies_266 ⟨Nat.le_of_ble_eq_true rfl, Nat.le_of_ble_eq_true rfl⟩) hA hP hD hS [0] [1, 2, 3, 4, 5] rfl rfl (by decide) (by decide) (fun _ u_r_12 H locs wr_12 hP hD hS => ?_)
                    have hP : va_P D vwCl [(mH, .inl (cI, 512, .inl fH)), (mI, .inl (cL, 1200, .inr (.inl fI))), (mJ, .inl (cI, 4, .inl (k4i j0 j1 j2 j3))), (mS, .inl (cI, 4, .inl (k4i s0 s1 st s3))), (mD, .inl (cL, 256, .inr (.inl fD))), (m0, .inr (8, [.ref mH, .int aM, .long aC, .int mM, .long mQ, .int oV, .int u_r_12, .int lI, .int sW, .int dP, .int sT, .long aT, .int 0, .int iW, .ref mI, .ref mJ, .ref mS, .ref mD, .int iH, .int aE, .int mN, .long sZ, .ref mX, .int tS, .int tA, .int tW, .ref mA, .ref mB, .ref mW, .ref mL, .int lS]))] H := hP
                    have hD : va_D A [(mH, .inl (cI, 512, .inl fH)), (mI, .inl (cL, 1200, .inr (.inl fI))), (mJ, .inl (cI, 4, .inl (k4i j0 j1 j2 j3))), (mS, .inl (cI, 4, .inl (k4i s0 s1 st s3))), (mD, .inl (cL, 256, .inr (.inl fD))), (m0, .inr (8, [.ref mH, .int aM, .long aC, .int mM, .long mQ, .int oV, .int u_r_12, .int lI, .int sW, .int dP, .int sT, .long aT, .int 0, .int iW, .ref mI, .ref mJ, .ref mS, .ref mD, .int iH, .int aE, .int mN, .long sZ, .ref mX, .int tS, .int tA, .int tW, .ref mA, .ref mB, .ref mW, .ref mL, .int lS]))] := hD
                    try dsimp only at wr_12
                    try simp only [Int32.reduceToInt, Int64.reduceToInt] at wr_12
                    refine lv_iconst (v := 0) hx hb dX8_copies_269 (by decide) ?_
                    refine kIret (u := (u_r_12, dP, 0, iW, fH, fD, fI, j0, j1, j2, j3, s0, s1, st, s3)) hx hb hr rfl hlocks hS dX8_copies_270 ?_ (hP.sub [5, 0, 1, 2, 3, 4] rfl) (hD.sub [5, 0, 1, 2, 3, 4] (by decide) rfl)
                    try dsimp only
                    repeat' (with_reducible apply And.intro)
                    all_goals first | with_reducible assumption | ((try simp only [jT_, jP_, jD_, jC_, jB_, jW_, Int32.reduceToInt, Int64.reduceToInt, true_or, or_true, true_and, and_true]) <;> omega)
                  · have t_258_10 := c_258_10
                    try simp only [kb_eq0, kb_ne0, lg_cmp_lt, lg_cmp_le, lg_cmp_gt, lg_cmp_ge, lg_cmp_eq] at t_258_10
                    try simp only [Int32.lt_iff_toInt_lt, Int32.le_iff_toInt_le, ← Int32.toInt_inj, Int64.lt_iff_toInt_lt, Int64.le_iff_toInt_le, ← Int64.toInt_inj, Int32.toInt_toInt64, Int32.reduceToInt, Int64.reduceToInt] at t_258_10
                    refine lv_iconst (v := 2) hx hb dX8_copies_261 (by decide) ?_
                    refine lv_goto (tgt := 266) hx hb dX8_copies_262 (by decide) ?_
                    refine kCallVd (wr := [(mH, .inl (cI, 512, .inl fH)), (mI, .inl (cL, 1200, .inr (.inl fI))), (mJ, .inl (cI, 4, .inl (k4i j0 j1 j2 j3))), (mS, .inl (cI, 4, .inl (k4i s0 s1 st s3))), (mD, .inl (cL, 256, .inr (.inl fD)))]) (va_runV (As := [.int 2]) (rest := []) ⟨hx, hb, hml, hown, hts⟩ (q_go l D cI cL cB cZ cT _ m0 mH mI mJ mS mD mX mA mB mW mL aM aC mM mQ oV pL lI sW dP sT aT 0 iW iH aE mN sZ tS tA tW lS 2) (cwV 1 hts gX8_copies_X8_go rfl rfl rfl (by decide +kernel) ⟨Nat.le_of_ble_eq_true rfl, Nat.le_of_ble_eq_true rfl⟩) (kPreV hG hP hD [0] rfl (by decide) 0 8 rfl rfl rfl) rfl rfl hl.1 rfl (lv_room (Nat.le_of_ble_eq_true rfl)) dX8_copies_266 ⟨Nat.le_of_ble_eq_true rfl, Nat.le_of_ble_eq_true rfl⟩) hA hP hD hS [0] [1, 2, 3, 4, 5] rfl rfl (by decide) (by decide) (fun _ u_r_13 H locs wr_13 hP hD hS => ?_)
                    have hP : va_P D vwCl [(mH, .inl (cI, 512, .inl fH)), (mI, .inl (cL, 1200, .inr (.inl fI))), (mJ, .inl (cI, 4, .inl (k4i j0 j1 j2 j3))), (mS, .inl (cI, 4, .inl (k4i s0 s1 st s3))), (mD, .inl (cL, 256, .inr (.inl fD))), (m0, .inr (8, [.ref mH, .int aM, .long aC, .int mM, .long mQ, .int oV, .int u_r_13, .int lI, .int sW, .int dP, .int sT, .long aT, .int 0, .int iW, .ref mI, .ref mJ, .ref mS, .ref mD, .int iH, .int aE, .int mN, .long sZ, .ref mX, .int tS, .int tA, .int tW, .ref mA, .ref mB, .ref mW, .ref mL, .int lS]))] H := hP
                    have hD : va_D A [(mH, .inl (cI, 512, .inl fH)), (mI, .inl (cL, 1200, .inr (.inl fI))), (mJ, .inl (cI, 4, .inl (k4i j0 j1 j2 j3))), (mS, .inl (cI, 4, .inl (k4i s0 s1 st s3))), (mD, .inl (cL, 256, .inr (.inl fD))), (m0, .inr (8, [.ref mH, .int aM, .long aC, .int mM, .long mQ, .int oV, .int u_r_13, .int lI, .int sW, .int dP, .int sT, .long aT, .int 0, .int iW, .ref mI, .ref mJ, .ref mS, .ref mD, .int iH, .int aE, .int mN, .long sZ, .ref mX, .int tS, .int tA, .int tW, .ref mA, .ref mB, .ref mW, .ref mL, .int lS]))] := hD
                    try dsimp only at wr_13
                    try simp only [Int32.reduceToInt, Int64.reduceToInt] at wr_13
                    refine lv_iconst (v := 0) hx hb dX8_copies_269 (by decide) ?_
                    refine kIret (u := (u_r_13, dP, 0, iW, fH, fD, fI, j0, j1, j2, j3, s0, s1, st, s3)) hx hb hr rfl hlocks hS dX8_copies_270 ?_ (hP.sub [5, 0, 1, 2, 3, 4] rfl) (hD.sub [5, 0, 1, 2, 3, 4] (by decide) rfl)
                    try dsimp only
                    repeat' (with_reducible apply And.intro)
                    all_goals first | with_reducible assumption | ((try simp only [jT_, jP_, jD_, jC_, jB_, jW_, Int32.reduceToInt, Int64.reduceToInt, true_or, or_true, true_and, and_true]) <;> omega)
                · have t_234_9 := c_234_9
                  try simp only [kb_eq0, kb_ne0, lg_cmp_lt, lg_cmp_le, lg_cmp_gt, lg_cmp_ge, lg_cmp_eq] at t_234_9
                  try simp only [Int32.lt_iff_toInt_lt, Int32.le_iff_toInt_le, ← Int32.toInt_inj, Int64.lt_iff_toInt_lt, Int64.le_iff_toInt_le, ← Int64.toInt_inj, Int32.toInt_toInt64, Int32.reduceToInt, Int64.reduceToInt] at t_234_9
                  refine lv_aload_n hx hb dX8_copies_237 rfl (lv_at hl 4 rfl) ?_
                  refine lv_lload hx hb dX8_copies_238 (lv_at hl 0 rfl) ?_
                  refine kCallVd (wr := [(mI, .inl (cL, 1200, .inr (.inl fI))), (mJ, .inl (cI, 4, .inl (k4i j0 j1 j2 j3))), (mS, .inl (cI, 4, .inl (k4i s0 s1 st s3))), (mD, .inl (cL, 256, .inr (.inl fD)))]) (va_runV (As := [.long vv]) (rest := []) ⟨hx, hb, hml, hown, hts⟩ (q_store l D cI cL cB cZ cT _ m0 mH mI mJ mS mD mX mA mB mW mL aM aC mM mQ oV pL lI sW dP sT aT 7 iW iH aE mN sZ tS tA tW lS fH vv (by omega)) (cwV 1 hts gX8_copies_X8_store rfl rfl rfl (by decide +kernel) ⟨Nat.le_of_ble_eq_true rfl, Nat.le_of_ble_eq_true rfl⟩) (kPreV hG hP hD [0, 1] rfl (by decide) 0 8 rfl rfl rfl) rfl rfl hl.1 rfl (lv_room (Nat.le_of_ble_eq_true rfl)) dX8_copies_240 ⟨Nat.le_of_ble_eq_true rfl, Nat.le_of_ble_eq_true rfl⟩) hA hP hD hS [0, 1] [2, 3, 4, 5] rfl rfl (by decide) (by decide) (fun _ u_r_14 H locs wr_14 hP hD hS => ?_)
                  have hP : va_P D vwCl [(mI, .inl (cL, 1200, .inr (.inl fI))), (mJ, .inl (cI, 4, .inl (k4i j0 j1 j2 j3))), (mS, .inl (cI, 4, .inl (k4i s0 s1 st s3))), (mD, .inl (cL, 256, .inr (.inl fD))), (m0, .inr (8, [.ref mH, .int aM, .long aC, .int mM, .long mQ, .int oV, .int pL, .int lI, .int sW, .int dP, .int sT, .long aT, .int 7, .int iW, .ref mI, .ref mJ, .ref mS, .ref mD, .int iH, .int aE, .int mN, .long sZ, .ref mX, .int tS, .int tA, .int tW, .ref mA, .ref mB, .ref mW, .ref mL, .int lS])), (mH, .inl (cI, 512, .inl u_r_14))] H := hP
                  have hD : va_D A [(mI, .inl (cL, 1200, .inr (.inl fI))), (mJ, .inl (cI, 4, .inl (k4i j0 j1 j2 j3))), (mS, .inl (cI, 4, .inl (k4i s0 s1 st s3))), (mD, .inl (cL, 256, .inr (.inl fD))), (m0, .inr (8, [.ref mH, .int aM, .long aC, .int mM, .long mQ, .int oV, .int pL, .int lI, .int sW, .int dP, .int sT, .long aT, .int 7, .int iW, .ref mI, .ref mJ, .ref mS, .ref mD, .int iH, .int aE, .int mN, .long sZ, .ref mX, .int tS, .int tA, .int tW, .ref mA, .ref mB, .ref mW, .ref mL, .int lS])), (mH, .inl (cI, 512, .inl u_r_14))] := hD
                  try dsimp only at wr_14
                  try simp only [Int32.reduceToInt, Int64.reduceToInt] at wr_14
                  refine lv_goto (tgt := 269) hx hb dX8_copies_243 (by decide) ?_
                  refine lv_iconst (v := 0) hx hb dX8_copies_269 (by decide) ?_
                  refine kIret (u := (pL, dP, 7, iW, u_r_14, fD, fI, j0, j1, j2, j3, s0, s1, st, s3)) hx hb hr rfl hlocks hS dX8_copies_270 ?_ (hP.sub [4, 5, 0, 1, 2, 3] rfl) (hD.sub [4, 5, 0, 1, 2, 3] (by decide) rfl)
                  try dsimp only
                  repeat' (with_reducible apply And.intro)
                  all_goals first | with_reducible assumption | ((try simp only [jT_, jP_, jD_, jC_, jB_, jW_, Int32.reduceToInt, Int64.reduceToInt, true_or, or_true, true_and, and_true]) <;> omega)
              refine lv_iload_n hx hb dX8_copies_165 rfl (lv_at hl 0 rfl) ?_
              refine lv_i2l hx hb dX8_copies_166 rfl ?_
              refine lv_lconst (v := 0) hx hb dX8_copies_167 (by decide) ?_
              refine lv_aload_n hx hb dX8_copies_168 rfl (lv_at hl 3 rfl) ?_
              refine va_get (D := D) (ci := 8) (v := .ref mJ) (C := RX8) (T := TX8) (N := 31) hx hb hts iX8_copies_X8 hown hK hP 0 rfl rfl 15 (by decide) (hts (.fieldLink RX8 17 "TapeCalculatorModel" "items" "[I") (List.mem_of_getElem? (i := 6) rfl)) (fun _ h9 => h9) rfl dX8_copies_169 ?_
              refine lv_iload_n hx hb dX8_copies_172 rfl (lv_at hl 1 rfl) ?_
              refine va_iald hx hb hK hP 3 0 rfl rfl (vp_in_iff.mpr (by decide)) dX8_copies_173 ?_
              refine lv_topi (fun x_15 ex_15 => ?_)
              obtain rfl : j2 = x_15 := ex_15.symm
              refine lv_iconst (v := 1) hx hb dX8_copies_174 (by decide) ?_
              refine lv_isub hx hb dX8_copies_175 ?_
              refine lv_topi (fun x_16 ex_16 => ?_)
              have hs0 := k_sub (a := j2) (b := 1) (by omega) (by decide)
              simp only [Int32.reduceToInt, show (-1 : Int32).toInt = -1 from rfl] at hs0
              rw [← ex_16] at hs0
              refine lv_i2l hx hb dX8_copies_176 rfl ?_
              refine kCallI (wr := [(m0, .inr (8, [.ref mH, .int aM, .long aC, .int mM, .long mQ, .int oV, .int pL, .int lI, .int sW, .int dP, .int sT, .long aT, .int 7, .int iW, .ref mI, .ref mJ, .ref mS, .ref mD, .int iH, .int aE, .int mN, .long sZ, .ref mX, .int tS, .int tA, .int tW, .ref mA, .ref mB, .ref mW, .ref mL, .int lS])), (mH, .inl (cI, 512, .inl fH)), (mI, .inl (cL, 1200, .inr (.inl fI))), (mJ, .inl (cI, 4, .inl (k4i j0 j1 j2 j3))), (mS, .inl (cI, 4, .inl (k4i s0 s1 s2 s3))), (mD, .inl (cL, 256, .inr (.inl fD)))]) (va_runS (As := [.long x_9.toInt64, .long 0, .long x_16.toInt64]) (rest := []) ⟨hx, hb, hml, hown, hts⟩ (q_in l D cI cL cB cZ cT _ (x_9.toInt64) 0 (x_16.toInt64)) (va_cwS 3 hts gX8_copies_X8_in rfl rfl rfl (by decide +kernel) ⟨Nat.le_of_ble_eq_true rfl, Nat.le_of_ble_eq_true rfl⟩) (kPreS hG hP hD [] rfl (by decide)) rfl rfl hl.1 rfl (lv_room (Nat.le_of_ble_eq_true rfl)) dX8_copies_177 ⟨Nat.le_of_ble_eq_true rfl, Nat.le_of_ble_eq_true rfl⟩) hA hP hD hS [] [0, 1, 2, 3, 4, 5] rfl rfl (by decide) (by decide) (fun r_17 u_r_17 H locs wr_17 hP hD hS => ?_)
              have hP : va_P D vwCl [(m0, .inr (8, [.ref mH, .int aM, .long aC, .int mM, .long mQ, .int oV, .int pL, .int lI, .int sW, .int dP, .int sT, .long aT, .int 7, .int iW, .ref mI, .ref mJ, .ref mS, .ref mD, .int iH, .int aE, .int mN, .long sZ, .ref mX, .int tS, .int tA, .int tW, .ref mA, .ref mB, .ref mW, .ref mL, .int lS])), (mH, .inl (cI, 512, .inl fH)), (mI, .inl (cL, 1200, .inr (.inl fI))), (mJ, .inl (cI, 4, .inl (k4i j0 j1 j2 j3))), (mS, .inl (cI, 4, .inl (k4i s0 s1 s2 s3))), (mD, .inl (cL, 256, .inr (.inl fD)))] H := hP
              have hD : va_D A [(m0, .inr (8, [.ref mH, .int aM, .long aC, .int mM, .long mQ, .int oV, .int pL, .int lI, .int sW, .int dP, .int sT, .long aT, .int 7, .int iW, .ref mI, .ref mJ, .ref mS, .ref mD, .int iH, .int aE, .int mN, .long sZ, .ref mX, .int tS, .int tA, .int tW, .ref mA, .ref mB, .ref mW, .ref mL, .int lS])), (mH, .inl (cI, 512, .inl fH)), (mI, .inl (cL, 1200, .inr (.inl fI))), (mJ, .inl (cI, 4, .inl (k4i j0 j1 j2 j3))), (mS, .inl (cI, 4, .inl (k4i s0 s1 s2 s3))), (mD, .inl (cL, 256, .inr (.inl fD)))] := hD
              try dsimp only at wr_17
              subst wr_17
              refine lv_if_eq (tgt := 198) hx hb dX8_copies_180 (by decide) (fun c_180_17 => ?_) (fun c_180_17 => ?_)
              · have t_180_17 := c_180_17
                try simp only [kb_eq0, kb_ne0, lg_cmp_lt, lg_cmp_le, lg_cmp_gt, lg_cmp_ge, lg_cmp_eq] at t_180_17
                try simp only [Int32.lt_iff_toInt_lt, Int32.le_iff_toInt_le, ← Int32.toInt_inj, Int64.lt_iff_toInt_lt, Int64.le_iff_toInt_le, ← Int64.toInt_inj, Int32.toInt_toInt64, Int32.reduceToInt, Int64.reduceToInt] at t_180_17
                refine lv_ldc2 (v := (-9)) hx hb hown (hts (.constantLong RX8 107 (-9)) (List.mem_of_getElem? (i := 8) rfl)) dX8_copies_198 ?_
                refine lv_lstore (lv' := [(4, .long (-9)), (3, .int x_9), (2, .int 2), (1, .int 1), (0, .ref m0)]) hx hb dX8_copies_201 hl (by decide) rfl (fun ls hl => ?_)
                refine lv_lload hx hb dX8_copies_203 (lv_at hl 0 rfl) ?_
                refine lv_ldc2 (v := (-9)) hx hb hown (hts (.constantLong RX8 107 (-9)) (List.mem_of_getElem? (i := 8) rfl)) dX8_copies_205 ?_
                refine W.lcmp hx hb dX8_copies_208 ?_
                refine lv_topi (fun x_19 ex_19 => ?_)
                obtain rfl : x_19 = 0 := ex_19.trans (by decide)
                refine lv_if_eq (tgt := 230) hx hb dX8_copies_209 (by decide) (fun c_209_19 => ?_) (fun c_209_19 => ?_)
                · have t_209_19 := c_209_19
                  try simp only [kb_eq0, kb_ne0, lg_cmp_lt, lg_cmp_le, lg_cmp_gt, lg_cmp_ge, lg_cmp_eq] at t_209_19
                  try simp only [Int32.lt_iff_toInt_lt, Int32.le_iff_toInt_le, ← Int32.toInt_inj, Int64.lt_iff_toInt_lt, Int64.le_iff_toInt_le, ← Int64.toInt_inj, Int32.toInt_toInt64, Int32.reduceToInt, Int64.reduceToInt] at t_209_19
                  exact J230 (-9) s2 (by first | with_reducible assumption | ((try simp only [jT_, jP_, jD_, jC_, jB_, jW_, Int32.reduceToInt, Int64.reduceToInt, true_or, or_true, true_and, and_true]) <;> omega)) _ _ (hP.sub [0, 1, 2, 3, 4, 5] rfl) (hD.sub [0, 1, 2, 3, 4, 5] (by decide) rfl) hS ls (lv_sub hl [0, 1, 2, 3, 4] rfl)
                · exact absurd (by decide) c_209_19
              · have t_180_17 := c_180_17
                try simp only [kb_eq0, kb_ne0, lg_cmp_lt, lg_cmp_le, lg_cmp_gt, lg_cmp_ge, lg_cmp_eq] at t_180_17
                try simp only [Int32.lt_iff_toInt_lt, Int32.le_iff_toInt_le, ← Int32.toInt_inj, Int64.lt_iff_toInt_lt, Int64.le_iff_toInt_le, ← Int64.toInt_inj, Int32.toInt_toInt64, Int32.reduceToInt, Int64.reduceToInt] at t_180_17
                refine lv_aload_n hx hb dX8_copies_183 rfl (lv_at hl 3 rfl) ?_
                refine va_get (D := D) (ci := 8) (v := .ref mI) (C := RX8) (T := TX8) (N := 31) hx hb hts iX8_copies_X8 hown hK hP 0 rfl rfl 14 (by decide) (hts (.fieldLink RX8 13 "TapeCalculatorModel" "item" "[J") (List.mem_of_getElem? (i := 7) rfl)) (fun _ h9 => h9) rfl dX8_copies_184 ?_
                refine lv_sipush (v := 300) hx hb dX8_copies_187 (by decide) ?_
                refine lv_iload_n hx hb dX8_copies_190 rfl (lv_at hl 1 rfl) ?_
                refine lv_imul hx hb dX8_copies_191 ?_
                refine lv_topi (fun x_21 ex_21 => ?_)
                obtain rfl : x_21 = 600 := ex_21.trans (by decide)
                refine lv_iload_n hx hb dX8_copies_192 rfl (lv_at hl 0 rfl) ?_
                refine lv_iadd hx hb dX8_copies_193 ?_
                refine va_lald hx hb hK hP 2 1 rfl rfl (vp_in_iff.mpr (by have hx9 := k_addg (a := 600) (b := x_9) (by decide) (by omega); simp only [Int32.reduceToInt] at hx9; omega)) dX8_copies_194 ?_
                refine lv_goto (tgt := 201) hx hb dX8_copies_195 (by decide) ?_
                refine lv_topl (fun x_22 ex_22 => ?_)
                refine lv_lstore (lv' := [(4, .long x_22), (3, .int x_9), (2, .int 2), (1, .int 1), (0, .ref m0)]) hx hb dX8_copies_201 hl (by decide) rfl (fun ls hl => ?_)
                refine lv_lload hx hb dX8_copies_203 (lv_at hl 0 rfl) ?_
                refine lv_ldc2 (v := (-9)) hx hb hown (hts (.constantLong RX8 107 (-9)) (List.mem_of_getElem? (i := 8) rfl)) dX8_copies_205 ?_
                refine W.lcmp hx hb dX8_copies_208 ?_
                refine lv_if_eq (tgt := 230) hx hb dX8_copies_209 (by decide) (fun c_209_22 => ?_) (fun c_209_22 => ?_)
                · have t_209_22 := c_209_22
                  try simp only [kb_eq0, kb_ne0, lg_cmp_lt, lg_cmp_le, lg_cmp_gt, lg_cmp_ge, lg_cmp_eq] at t_209_22
                  try simp only [Int32.lt_iff_toInt_lt, Int32.le_iff_toInt_le, ← Int32.toInt_inj, Int64.lt_iff_toInt_lt, Int64.le_iff_toInt_le, ← Int64.toInt_inj, Int32.toInt_toInt64, Int32.reduceToInt, Int64.reduceToInt] at t_209_22
                  exact J230 x_22 s2 (by first | with_reducible assumption | ((try simp only [jT_, jP_, jD_, jC_, jB_, jW_, Int32.reduceToInt, Int64.reduceToInt, true_or, or_true, true_and, and_true]) <;> omega)) _ _ (hP.sub [0, 1, 2, 3, 4, 5] rfl) (hD.sub [0, 1, 2, 3, 4, 5] (by decide) rfl) hS ls (lv_sub hl [0, 1, 2, 3, 4] rfl)
                · have t_209_22 := c_209_22
                  try simp only [kb_eq0, kb_ne0, lg_cmp_lt, lg_cmp_le, lg_cmp_gt, lg_cmp_ge, lg_cmp_eq] at t_209_22
                  try simp only [Int32.lt_iff_toInt_lt, Int32.le_iff_toInt_le, ← Int32.toInt_inj, Int64.lt_iff_toInt_lt, Int64.le_iff_toInt_le, ← Int64.toInt_inj, Int32.toInt_toInt64, Int32.reduceToInt, Int64.reduceToInt] at t_209_22
                  refine lv_aload_n hx hb dX8_copies_212 rfl (lv_at hl 4 rfl) ?_
                  refine va_get (D := D) (ci := 8) (v := .ref mS) (C := RX8) (T := TX8) (N := 31) hx hb hts iX8_copies_X8 hown hK hP 0 rfl rfl 16 (by decide) (hts (.fieldLink RX8 20 "TapeCalculatorModel" "stands" "[I") (List.mem_of_getElem? (i := 5) rfl)) (fun _ h9 => h9) rfl dX8_copies_213 ?_
                  refine lv_iload_n hx hb dX8_copies_216 rfl (lv_at hl 2 rfl) ?_
                  refine lv_dup2_11 hx hb dX8_copies_217 rfl rfl ?_
                  refine va_iald hx hb hK hP 4 0 rfl rfl (vp_in_iff.mpr (by decide)) dX8_copies_218 ?_
                  refine lv_topi (fun x_24 ex_24 => ?_)
                  obtain rfl : s2 = x_24 := ex_24.symm
                  refine lv_iload_n hx hb dX8_copies_219 rfl (lv_at hl 3 rfl) ?_
                  refine lv_if_eq (tgt := 227) hx hb dX8_copies_220 (by decide) (fun c_220_24 => ?_) (fun c_220_24 => ?_)
                  · exact absurd c_220_24 (by decide)
                  · have t_220_24 := c_220_24
                    try simp only [kb_eq0, kb_ne0, lg_cmp_lt, lg_cmp_le, lg_cmp_gt, lg_cmp_ge, lg_cmp_eq] at t_220_24
                    try simp only [Int32.lt_iff_toInt_lt, Int32.le_iff_toInt_le, ← Int32.toInt_inj, Int64.lt_iff_toInt_lt, Int64.le_iff_toInt_le, ← Int64.toInt_inj, Int32.toInt_toInt64, Int32.reduceToInt, Int64.reduceToInt] at t_220_24
                    refine lv_iconst (v := (-1)) hx hb dX8_copies_223 (by decide) ?_
                    refine lv_goto (tgt := 228) hx hb dX8_copies_224 (by decide) ?_
                    refine lv_iadd hx hb dX8_copies_228 ?_
                    refine lv_topi (fun x_26 ex_26 => ?_)
                    have hs2 := k_addg (a := s2) (b := (-1)) (by omega) (by decide)
                    simp only [Int32.reduceToInt, show (-1 : Int32).toInt = -1 from rfl] at hs2
                    rw [← ex_26] at hs2
                    refine va_iast hx hb hK hP hD hS 4 0 rfl rfl (vp_in_iff.mpr (by decide)) dX8_copies_229 (fun H locs hP hD hS => ?_)
                    rw [k4i_2] at hP hD
                    have hP : va_P D vwCl [(m0, .inr (8, [.ref mH, .int aM, .long aC, .int mM, .long mQ, .int oV, .int pL, .int lI, .int sW, .int dP, .int sT, .long aT, .int 7, .int iW, .ref mI, .ref mJ, .ref mS, .ref mD, .int iH, .int aE, .int mN, .long sZ, .ref mX, .int tS, .int tA, .int tW, .ref mA, .ref mB, .ref mW, .ref mL, .int lS])), (mH, .inl (cI, 512, .inl fH)), (mI, .inl (cL, 1200, .inr (.inl fI))), (mJ, .inl (cI, 4, .inl (k4i j0 j1 j2 j3))), (mS, .inl (cI, 4, .inl (k4i s0 s1 x_26 s3))), (mD, .inl (cL, 256, .inr (.inl fD)))] H := hP
                    have hD : va_D A [(m0, .inr (8, [.ref mH, .int aM, .long aC, .int mM, .long mQ, .int oV, .int pL, .int lI, .int sW, .int dP, .int sT, .long aT, .int 7, .int iW, .ref mI, .ref mJ, .ref mS, .ref mD, .int iH, .int aE, .int mN, .long sZ, .ref mX, .int tS, .int tA, .int tW, .ref mA, .ref mB, .ref mW, .ref mL, .int lS])), (mH, .inl (cI, 512, .inl fH)), (mI, .inl (cL, 1200, .inr (.inl fI))), (mJ, .inl (cI, 4, .inl (k4i j0 j1 j2 j3))), (mS, .inl (cI, 4, .inl (k4i s0 s1 x_26 s3))), (mD, .inl (cL, 256, .inr (.inl fD)))] := hD
                    exact J230 x_22 x_26 (by first | with_reducible assumption | ((try simp only [jT_, jP_, jD_, jC_, jB_, jW_, Int32.reduceToInt, Int64.reduceToInt, true_or, or_true, true_and, and_true]) <;> omega)) _ _ (hP.sub [0, 1, 2, 3, 4, 5] rfl) (hD.sub [0, 1, 2, 3, 4, 5] (by decide) rfl) hS ls (lv_sub hl [0, 1, 2, 3, 4] rfl)
      · exact absurd (by decide) c_79_2
    · exact absurd (by decide) c_16_1
  · exact absurd c_4_0 (by decide)
set_option maxRecDepth 100000 in
set_option maxHeartbeats 4000000 in
theorem q_copies_8 (l : Launch) (D : va_G) (cI cL cB cZ cT : ClassId) (sz : Nat) (m0 mH mI mJ mS mD mX mA mB mW mL : Nat) (aM : Int32) (aC : Int64) (mM : Int32) (mQ : Int64) (oV pL lI sW dP sT : Int32) (aT : Int64) (iW iH aE mN : Int32) (sZ : Int64) (tS tA tW lS : Int32) (fH : Nat → Int32) (fI : Nat → Int64) (j0 j1 j2 j3 : Int32) (s0 s1 s2 s3 : Int32) (fD : Nat → Int64) (hpl : jP_ pL) (hdp : jD_ dP) (hch : jC_ 8) (hiw : jW_ iW 8) (ht0 : jT_ s0 j0) (ht1 : jT_ s1 j1) (ht2 : jT_ s2 j2) (ht3 : jT_ s3 j3) (had : 0 ≤ aE.toInt ∧ aE.toInt ≤ 511 ∧ (iH.toInt = 0 ∨ aE.toInt ≤ 510)) : kM (S := (Int32 × Int32 × Int32 × Int32 × (Nat → Int32) × (Nat → Int64) × (Nat → Int64) × Int32 × Int32 × Int32 × Int32 × Int32 × Int32 × Int32 × Int32)) l yX8_copies wsX8_copies ({ frames := 2, cells := 0, slots := 0, locals := 45 }) D (kT cI cL cB cZ cT) [.ref m0] [(m0, .inr (8, [.ref mH, .int aM, .long aC, .int mM, .long mQ, .int oV, .int pL, .int lI, .int sW, .int dP, .int sT, .long aT, .int 8, .int iW, .ref mI, .ref mJ, .ref mS, .ref mD, .int iH, .int aE, .int mN, .long sZ, .ref mX, .int tS, .int tA, .int tW, .ref mA, .ref mB, .ref mW, .ref mL, .int lS])), (mH, .inl (cI, 512, .inl fH)), (mI, .inl (cL, 1200, .inr (.inl fI))), (mJ, .inl (cI, 4, .inl (k4i j0 j1 j2 j3))), (mS, .inl (cI, 4, .inl (k4i s0 s1 s2 s3))), (mD, .inl (cL, 256, .inr (.inl fD)))] sz eI (fun r u => (0 ≤ r.toInt ∧ r.toInt ≤ 6) ∧ jP_ (u.1) ∧ jD_ (u.2.1) ∧ jC_ (u.2.2.1) ∧ jW_ (u.2.2.2.1) (u.2.2.1) ∧ jT_ (u.2.2.2.2.2.2.2.2.2.2.2.1) (u.2.2.2.2.2.2.2.1) ∧ jT_ (u.2.2.2.2.2.2.2.2.2.2.2.2.1) (u.2.2.2.2.2.2.2.2.1) ∧ jT_ (u.2.2.2.2.2.2.2.2.2.2.2.2.2.1) (u.2.2.2.2.2.2.2.2.2.1) ∧ jT_ (u.2.2.2.2.2.2.2.2.2.2.2.2.2.2) (u.2.2.2.2.2.2.2.2.2.2.1)) (fun u => [(m0, .inr (8, [.ref mH, .int aM, .long aC, .int mM, .long mQ, .int oV, .int u.1, .int lI, .int sW, .int u.2.1, .int sT, .long aT, .int u.2.2.1, .int u.2.2.2.1, .ref mI, .ref mJ, .ref mS, .ref mD, .int iH, .int aE, .int mN, .long sZ, .ref mX, .int tS, .int tA, .int tW, .ref mA, .ref mB, .ref mW, .ref mL, .int lS])), (mH, .inl (cI, 512, .inl u.2.2.2.2.1)), (mI, .inl (cL, 1200, .inr (.inl u.2.2.2.2.2.2.1))), (mJ, .inl (cI, 4, .inl (k4i u.2.2.2.2.2.2.2.1 u.2.2.2.2.2.2.2.2.1 u.2.2.2.2.2.2.2.2.2.1 u.2.2.2.2.2.2.2.2.2.2.1))), (mS, .inl (cI, 4, .inl (k4i u.2.2.2.2.2.2.2.2.2.2.2.1 u.2.2.2.2.2.2.2.2.2.2.2.2.1 u.2.2.2.2.2.2.2.2.2.2.2.2.2.1 u.2.2.2.2.2.2.2.2.2.2.2.2.2.2))), (mD, .inl (cL, 256, .inr (.inl u.2.2.2.2.2.1)))]) 0 0 := by
  refine kStart (cc := cX8_copies) (maxL := 6) (ret := (some .int)) (own := RX8) (by decide) rfl rfl (Nat.le_of_ble_eq_true rfl) ?_
  intro p e s m args below meth c A ls hx hb hr hml hown hts hlocks hnm hsz hA hG hP hD hS hl
  have hK := hG.1
  have hl : lv_has ls 6 [(0, .ref m0)] := hl
  have hiw1 : iW.toInt = 0 := by simp only [jW_, Int32.reduceToInt] at hiw; omega
  have hu3 : 0 ≤ s3.toInt ∧ s3.toInt ≤ j3.toInt ∧ j3.toInt ≤ 300 := ht3
  refine lv_aload_n hx hb dX8_copies_0 rfl (lv_at hl 0 rfl) ?_
  refine va_get (D := D) (ci := 8) (v := .int 8) (C := RX8) (T := TX8) (N := 31) hx hb hts iX8_copies_X8 hown hK hP 0 rfl rfl 12 (by decide) (hts (.fieldLink RX8 43 "TapeCalculatorModel" "chosen" "I") (List.mem_of_getElem? (i := 1) rfl)) (fun _ h9 => h9) rfl dX8_copies_1 ?_
  refine lv_if_ne (tgt := 10) hx hb dX8_copies_4 (by decide) (fun c_4_0 => ?_) (fun c_4_0 => ?_)
  · have t_4_0 := c_4_0
    try simp only [kb_eq0, kb_ne0, lg_cmp_lt, lg_cmp_le, lg_cmp_gt, lg_cmp_ge, lg_cmp_eq] at t_4_0
    try simp only [Int32.lt_iff_toInt_lt, Int32.le_iff_toInt_le, ← Int32.toInt_inj, Int64.lt_iff_toInt_lt, Int64.le_iff_toInt_le, ← Int64.toInt_inj, Int32.toInt_toInt64, Int32.reduceToInt, Int64.reduceToInt] at t_4_0
    refine lv_aload_n hx hb dX8_copies_10 rfl (lv_at hl 0 rfl) ?_
    refine va_get (D := D) (ci := 8) (v := .int 8) (C := RX8) (T := TX8) (N := 31) hx hb hts iX8_copies_X8 hown hK hP 0 rfl rfl 12 (by decide) (hts (.fieldLink RX8 43 "TapeCalculatorModel" "chosen" "I") (List.mem_of_getElem? (i := 1) rfl)) (fun _ h9 => h9) rfl dX8_copies_11 ?_
    refine lv_bipush (v := 12) hx hb dX8_copies_14 (by decide) ?_
    refine lv_icmp_le (tgt := 73) hx hb dX8_copies_16 (by decide) (fun c_16_1 => ?_) (fun c_16_1 => ?_)
    · have t_16_1 := c_16_1
      try simp only [kb_eq0, kb_ne0, lg_cmp_lt, lg_cmp_le, lg_cmp_gt, lg_cmp_ge, lg_cmp_eq] at t_16_1
      try simp only [Int32.lt_iff_toInt_lt, Int32.le_iff_toInt_le, ← Int32.toInt_inj, Int64.lt_iff_toInt_lt, Int64.le_iff_toInt_le, ← Int64.toInt_inj, Int32.toInt_toInt64, Int32.reduceToInt, Int64.reduceToInt] at t_16_1
      refine lv_aload_n hx hb dX8_copies_73 rfl (lv_at hl 0 rfl) ?_
      refine va_get (D := D) (ci := 8) (v := .int 8) (C := RX8) (T := TX8) (N := 31) hx hb hts iX8_copies_X8 hown hK hP 0 rfl rfl 12 (by decide) (hts (.fieldLink RX8 43 "TapeCalculatorModel" "chosen" "I") (List.mem_of_getElem? (i := 1) rfl)) (fun _ h9 => h9) rfl dX8_copies_74 ?_
      refine lv_bipush (v := 8) hx hb dX8_copies_77 (by decide) ?_
      refine lv_icmp_le (tgt := 109) hx hb dX8_copies_79 (by decide) (fun c_79_2 => ?_) (fun c_79_2 => ?_)
      · have t_79_2 := c_79_2
        try simp only [kb_eq0, kb_ne0, lg_cmp_lt, lg_cmp_le, lg_cmp_gt, lg_cmp_ge, lg_cmp_eq] at t_79_2
        try simp only [Int32.lt_iff_toInt_lt, Int32.le_iff_toInt_le, ← Int32.toInt_inj, Int64.lt_iff_toInt_lt, Int64.le_iff_toInt_le, ← Int64.toInt_inj, Int32.toInt_toInt64, Int32.reduceToInt, Int64.reduceToInt] at t_79_2
        refine lv_aload_n hx hb dX8_copies_109 rfl (lv_at hl 0 rfl) ?_
        refine va_get (D := D) (ci := 8) (v := .int 8) (C := RX8) (T := TX8) (N := 31) hx hb hts iX8_copies_X8 hown hK hP 0 rfl rfl 12 (by decide) (hts (.fieldLink RX8 43 "TapeCalculatorModel" "chosen" "I") (List.mem_of_getElem? (i := 1) rfl)) (fun _ h9 => h9) rfl dX8_copies_110 ?_
        refine lv_iconst (v := 4) hx hb dX8_copies_113 (by decide) ?_
        refine lv_icmp_le (tgt := 121) hx hb dX8_copies_114 (by decide) (fun c_114_3 => ?_) (fun c_114_3 => ?_)
        · exact absurd c_114_3 (by decide)
        · have t_114_3 := c_114_3
          try simp only [kb_eq0, kb_ne0, lg_cmp_lt, lg_cmp_le, lg_cmp_gt, lg_cmp_ge, lg_cmp_eq] at t_114_3
          try simp only [Int32.lt_iff_toInt_lt, Int32.le_iff_toInt_le, ← Int32.toInt_inj, Int64.lt_iff_toInt_lt, Int64.le_iff_toInt_le, ← Int64.toInt_inj, Int32.toInt_toInt64, Int32.reduceToInt, Int64.reduceToInt] at t_114_3
          refine lv_iconst (v := 1) hx hb dX8_copies_117 (by decide) ?_
          refine lv_goto (tgt := 122) hx hb dX8_copies_118 (by decide) ?_
          refine lv_istore_n (lv' := [(1, .int 1), (0, .ref m0)]) hx hb dX8_copies_122 rfl hl (by decide) rfl (fun ls hl => ?_)
          refine lv_iload_n hx hb dX8_copies_123 rfl (lv_at hl 0 rfl) ?_
          refine lv_if_eq (tgt := 136) hx hb dX8_copies_124 (by decide) (fun c_124_4 => ?_) (fun c_124_4 => ?_)
          · exact absurd c_124_4 (by decide)
          · have t_124_4 := c_124_4
            try simp only [kb_eq0, kb_ne0, lg_cmp_lt, lg_cmp_le, lg_cmp_gt, lg_cmp_ge, lg_cmp_eq] at t_124_4
            try simp only [Int32.lt_iff_toInt_lt, Int32.le_iff_toInt_le, ← Int32.toInt_inj, Int64.lt_iff_toInt_lt, Int64.le_iff_toInt_le, ← Int64.toInt_inj, Int32.toInt_toInt64, Int32.reduceToInt, Int64.reduceToInt] at t_124_4
            refine lv_aload_n hx hb dX8_copies_127 rfl (lv_at hl 1 rfl) ?_
            refine va_get (D := D) (ci := 8) (v := .int 8) (C := RX8) (T := TX8) (N := 31) hx hb hts iX8_copies_X8 hown hK hP 0 rfl rfl 12 (by decide) (hts (.fieldLink RX8 43 "TapeCalculatorModel" "chosen" "I") (List.mem_of_getElem? (i := 1) rfl)) (fun _ h9 => h9) rfl dX8_copies_128 ?_
            refine lv_iconst (v := 5) hx hb dX8_copies_131 (by decide) ?_
            refine lv_isub hx hb dX8_copies_132 ?_
            refine lv_topi (fun x_6 ex_6 => ?_)
            obtain rfl : x_6 = 3 := ex_6.trans (by decide)
            refine lv_goto (tgt := 142) hx hb dX8_copies_133 (by decide) ?_
            refine lv_istore_n (lv' := [(2, .int 3), (1, .int 1), (0, .ref m0)]) hx hb dX8_copies_142 rfl hl (by decide) rfl (fun ls hl => ?_)
            refine lv_iload_n hx hb dX8_copies_143 rfl (lv_at hl 1 rfl) ?_
            refine lv_if_eq (tgt := 158) hx hb dX8_copies_144 (by decide) (fun c_144_6 => ?_) (fun c_144_6 => ?_)
            · exact absurd c_144_6 (by decide)
            · have t_144_6 := c_144_6
              try simp only [kb_eq0, kb_ne0, lg_cmp_lt, lg_cmp_le, lg_cmp_gt, lg_cmp_ge, lg_cmp_eq] at t_144_6
              try simp only [Int32.lt_iff_toInt_lt, Int32.le_iff_toInt_le, ← Int32.toInt_inj, Int64.lt_iff_toInt_lt, Int64.le_iff_toInt_le, ← Int64.toInt_inj, Int32.toInt_toInt64, Int32.reduceToInt, Int64.reduceToInt] at t_144_6
              refine lv_aload_n hx hb dX8_copies_147 rfl (lv_at hl 2 rfl) ?_
              refine va_get (D := D) (ci := 8) (v := .ref mS) (C := RX8) (T := TX8) (N := 31) hx hb hts iX8_copies_X8 hown hK hP 0 rfl rfl 16 (by decide) (hts (.fieldLink RX8 20 "TapeCalculatorModel" "stands" "[I") (List.mem_of_getElem? (i := 5) rfl)) (fun _ h9 => h9) rfl dX8_copies_148 ?_
              refine lv_iload_n hx hb dX8_copies_151 rfl (lv_at hl 0 rfl) ?_
              refine va_iald hx hb hK hP 4 0 rfl rfl (vp_in_iff.mpr (by decide)) dX8_copies_152 ?_
              refine lv_topi (fun x_8 ex_8 => ?_)
              obtain rfl : s3 = x_8 := ex_8.symm
              refine lv_iconst (v := 1) hx hb dX8_copies_153 (by decide) ?_
              refine lv_isub hx hb dX8_copies_154 ?_
              refine lv_topi (fun x_9 ex_9 => ?_)
              have hs1 := k_sub (a := s3) (b := 1) (by omega) (by decide)
              simp only [Int32.reduceToInt, show (-1 : Int32).toInt = -1 from rfl] at hs1
              rw [← ex_9] at hs1
              refine lv_goto (tgt := 164) hx hb dX8_copies_155 (by decide) ?_
              refine lv_istore_n (lv' := [(3, .int x_9), (2, .int 3), (1, .int 1), (0, .ref m0)]) hx hb dX8_copies_164 rfl hl (by decide) rfl (fun ls hl => ?_)
              have J230 : ∀ (vv : Int64) (st : Int32), jT_ st j3 → ∀ (H : Heap) (locs : List Loc), va_P D vwCl [(m0, .inr (8, [.ref mH, .int aM, .long aC, .int mM, .long mQ, .int oV, .int pL, .int lI, .int sW, .int dP, .int sT, .long aT, .int 8, .int iW, .ref mI, .ref mJ, .ref mS, .ref mD, .int iH, .int aE, .int mN, .long sZ, .ref mX, .int tS, .int tA, .int tW, .ref mA, .ref mB, .ref mW, .ref mL, .int lS])), (mH, .inl (cI, 512, .inl fH)), (mI, .inl (cL, 1200, .inr (.inl fI))), (mJ, .inl (cI, 4, .inl (k4i j0 j1 j2 j3))), (mS, .inl (cI, 4, .inl (k4i s0 s1 s2 st))), (mD, .inl (cL, 256, .inr (.inl fD)))] H → va_D A [(m0, .inr (8, [.ref mH, .int aM, .long aC, .int mM, .long mQ, .int oV, .int pL, .int lI, .int sW, .int dP, .int sT, .long aT, .int 8, .int iW, .ref mI, .ref mJ, .ref mS, .ref mD, .int iH, .int aE, .int mN, .long sZ, .ref mX, .int tS, .int tA, .int tW, .ref mA, .ref mB, .ref mW, .ref mL, .int lS])), (mH, .inl (cI, 512, .inl fH)), (mI, .inl (cL, 1200, .inr (.inl fI))), (mJ, .inl (cI, 4, .inl (k4i j0 j1 j2 j3))), (mS, .inl (cI, 4, .inl (k4i s0 s1 s2 st))), (mD, .inl (cL, 256, .inr (.inl fD)))] → va_S A s.heap H locs → ∀ ls : Array Slot, lv_has ls 6 [(4, .long vv), (3, .int x_9), (2, .int 3), (1, .int 1), (0, .ref m0)] → W p l e ({ frames := 2, cells := 0, slots := 0, locals := 45 }) s m args below meth c H locs 0 0 (MQ below (kQ (S := (Int32 × Int32 × Int32 × Int32 × (Nat → Int32) × (Nat → Int64) × (Nat → Int64) × Int32 × Int32 × Int32 × Int32 × Int32 × Int32 × Int32 × Int32)) eI (fun r u => (0 ≤ r.toInt ∧ r.toInt ≤ 6) ∧ jP_ (u.1) ∧ jD_ (u.2.1) ∧ jC_ (u.2.2.1) ∧ jW_ (u.2.2.2.1) (u.2.2.1) ∧ jT_ (u.2.2.2.2.2.2.2.2.2.2.2.1) (u.2.2.2.2.2.2.2.1) ∧ jT_ (u.2.2.2.2.2.2.2.2.2.2.2.2.1) (u.2.2.2.2.2.2.2.2.1) ∧ jT_ (u.2.2.2.2.2.2.2.2.2.2.2.2.2.1) (u.2.2.2.2.2.2.2.2.2.1) ∧ jT_ (u.2.2.2.2.2.2.2.2.2.2.2.2.2.2) (u.2.2.2.2.2.2.2.2.2.2.1)) D (fun u => [(m0, .inr (8, [.ref mH, .int aM, .long aC, .int mM, .long mQ, .int oV, .int u.1, .int lI, .int sW, .int u.2.1, .int sT, .long aT, .int u.2.2.1, .int u.2.2.2.1, .ref mI, .ref mJ, .ref mS, .ref mD, .int iH, .int aE, .int mN, .long sZ, .ref mX, .int tS, .int tA, .int tW, .ref mA, .ref mB, .ref mW, .ref mL, .int lS])), (mH, .inl (cI, 512, .inl u.2.2.2.2.1)), (mI, .inl (cL, 1200, .inr (.inl u.2.2.2.2.2.2.1))), (mJ, .inl (cI, 4, .inl (k4i u.2.2.2.2.2.2.2.1 u.2.2.2.2.2.2.2.2.1 u.2.2.2.2.2.2.2.2.2.1 u.2.2.2.2.2.2.2.2.2.2.1))), (mS, .inl (cI, 4, .inl (k4i u.2.2.2.2.2.2.2.2.2.2.2.1 u.2.2.2.2.2.2.2.2.2.2.2.2.1 u.2.2.2.2.2.2.2.2.2.2.2.2.2.1 u.2.2.2.2.2.2.2.2.2.2.2.2.2.2))), (mD, .inl (cL, 256, .inr (.inl u.2.2.2.2.2.1)))]) A) args s 0 0 A) (F0 m 230 ls []) := by
                intro vv st hst H locs hP hD hS ls hl
                refine lv_lload hx hb dX8_copies_230 (lv_at hl 0 rfl) ?_
                refine lv_lconst (v := 0) hx hb dX8_copies_232 (by decide) ?_
                refine W.lcmp hx hb dX8_copies_233 ?_
                refine lv_if_lt (tgt := 246) hx hb dX8_copies_234 (by decide) (fun c_234_9 => ?_) (fun c_234_9 => ?_)
                · have t_234_9 := c_234_9
                  try simp only [kb_eq0, kb_ne0, lg_cmp_lt, lg_cmp_le, lg_cmp_gt, lg_cmp_ge, lg_cmp_eq] at t_234_9
                  try simp only [Int32.lt_iff_toInt_lt, Int32.le_iff_toInt_le, ← Int32.toInt_inj, Int64.lt_iff_toInt_lt, Int64.le_iff_toInt_le, ← Int64.toInt_inj, Int32.toInt_toInt64, Int32.reduceToInt, Int64.reduceToInt] at t_234_9
                  refine lv_aload_n hx hb dX8_copies_246 rfl (lv_at hl 4 rfl) ?_
                  refine lv_iconst (v := 0) hx hb dX8_copies_247 (by decide) ?_
                  refine va_put (D := D) (ci := 8) (v := .int 0) (ty := .int) (C := RX8) (T := TX8) (N := 31) hx hb hts iX8_copies_X8 tyX8 tyX8_ok nmX8 hown hK hP hD hS 0 rfl rfl 12 (by decide) (hts (.fieldLink RX8 43 "TapeCalculatorModel" "chosen" "I") (List.mem_of_getElem? (i := 1) rfl)) (fun _ h9 => h9) rfl (by decide +kernel) rfl rfl (Nat.le_of_ble_eq_true rfl) dX8_copies_248 (fun H locs hP hD hS => ?_)
                  have hP : va_P D vwCl [(m0, .inr (8, [.ref mH, .int aM, .long aC, .int mM, .long mQ, .int oV, .int pL, .int lI, .int sW, .int dP, .int sT, .long aT, .int 0, .int iW, .ref mI, .ref mJ, .ref mS, .ref mD, .int iH, .int aE, .int mN, .long sZ, .ref mX, .int tS, .int tA, .int tW, .ref mA, .ref mB, .ref mW, .ref mL, .int lS])), (mH, .inl (cI, 512, .inl fH)), (mI, .inl (cL, 1200, .inr (.inl fI))), (mJ, .inl (cI, 4, .inl (k4i j0 j1 j2 j3))), (mS, .inl (cI, 4, .inl (k4i s0 s1 s2 st))), (mD, .inl (cL, 256, .inr (.inl fD)))] H := hP
                  have hD : va_D A [(m0, .inr (8, [.ref mH, .int aM, .long aC, .int mM, .long mQ, .int oV, .int pL, .int lI, .int sW, .int dP, .int sT, .long aT, .int 0, .int iW, .ref mI, .ref mJ, .ref mS, .ref mD, .int iH, .int aE, .int mN, .long sZ, .ref mX, .int tS, .int tA, .int tW, .ref mA, .ref mB, .ref mW, .ref mL, .int lS])), (mH, .inl (cI, 512, .inl fH)), (mI, .inl (cL, 1200, .inr (.inl fI))), (mJ, .inl (cI, 4, .inl (k4i j0 j1 j2 j3))), (mS, .inl (cI, 4, .inl (k4i s0 s1 s2 st))), (mD, .inl (cL, 256, .inr (.inl fD)))] := hD
                  refine lv_aload_n hx hb dX8_copies_251 rfl (lv_at hl 4 rfl) ?_
                  refine lv_lload hx hb dX8_copies_252 (lv_at hl 0 rfl) ?_
                  refine lv_ldc2 (v := (-2)) hx hb hown (hts (.constantLong RX8 111 (-2)) (List.mem_of_getElem? (i := 9) rfl)) dX8_copies_254 ?_
                  refine W.lcmp hx hb dX8_copies_257 ?_
                  refine lv_if_ne (tgt := 265) hx hb dX8_copies_258 (by decide) (fun c_258_10 => ?_) (fun c_258_10 => ?_)
                  · have t_258_10 := c_258_10
                    try simp only [kb_eq0, kb_ne0, lg_cmp_lt, lg_cmp_le, lg_cmp_gt, lg_cmp_ge, lg_cmp_eq] at t_258_10
                    try simp only [Int32.lt_iff_toInt_lt, Int32.le_iff_toInt_le, ← Int32.toInt_inj, Int64.lt_iff_toInt_lt, Int64.le_iff_toInt_le, ← Int64.toInt_inj, Int32.toInt_toInt64, Int32.reduceToInt, Int64.reduceToInt] at t_258_10
                    refine lv_iconst (v := 1) hx hb dX8_copies_265 (by decide) ?_
                    refine kCallVd (wr := [(mH, .inl (cI, 512, .inl fH)), (mI, .inl (cL, 1200, .inr (.inl fI))), (mJ, .inl (cI, 4, .inl (k4i j0 j1 j2 j3))), (mS, .inl (cI, 4, .inl (k4i s0 s1 s2 st))), (mD, .inl (cL, 256, .inr (.inl fD)))]) (va_runV (As := [.int 1]) (rest := []) ⟨hx, hb, hml, hown, hts⟩ (q_go l D cI cL cB cZ cT _ m0 mH mI mJ mS mD mX mA mB mW mL aM aC mM mQ oV pL lI sW dP sT aT 0 iW iH aE mN sZ tS tA tW lS 1) (cwV 1 hts gX8_copies_X8_go rfl rfl rfl (by decide +kernel) ⟨Nat.le_of_ble_eq_true rfl, Nat.le_of_ble_eq_true rfl⟩) (kPreV hG hP hD [0] rfl (by decide) 0 8 rfl rfl rfl) rfl rfl hl.1 rfl (lv_room (Nat.le_of_ble_eq_true rfl)) dX8_copies_266 ⟨Nat.le_of_ble_eq_true rfl, Nat.le_of_ble_eq_true rfl⟩) hA hP hD hS [0] [1, 2, 3, 4, 5] rfl rfl (by decide) (by decide) (fun _ u_r_12 H locs wr_12 hP hD hS => ?_)
                    have hP : va_P D vwCl [(mH, .inl (cI, 512, .inl fH)), (mI, .inl (cL, 1200, .inr (.inl fI))), (mJ, .inl (cI, 4, .inl (k4i j0 j1 j2 j3))), (mS, .inl (cI, 4, .inl (k4i s0 s1 s2 st))), (mD, .inl (cL, 256, .inr (.inl fD))), (m0, .inr (8, [.ref mH, .int aM, .long aC, .int mM, .long mQ, .int oV, .int u_r_12, .int lI, .int sW, .int dP, .int sT, .long aT, .int 0, .int iW, .ref mI, .ref mJ, .ref mS, .ref mD, .int iH, .int aE, .int mN, .long sZ, .ref mX, .int tS, .int tA, .int tW, .ref mA, .ref mB, .ref mW, .ref mL, .int lS]))] H := hP
                    have hD : va_D A [(mH, .inl (cI, 512, .inl fH)), (mI, .inl (cL, 1200, .inr (.inl fI))), (mJ, .inl (cI, 4, .inl (k4i j0 j1 j2 j3))), (mS, .inl (cI, 4, .inl (k4i s0 s1 s2 st))), (mD, .inl (cL, 256, .inr (.inl fD))), (m0, .inr (8, [.ref mH, .int aM, .long aC, .int mM, .long mQ, .int oV, .int u_r_12, .int lI, .int sW, .int dP, .int sT, .long aT, .int 0, .int iW, .ref mI, .ref mJ, .ref mS, .ref mD, .int iH, .int aE, .int mN, .long sZ, .ref mX, .int tS, .int tA, .int tW, .ref mA, .ref mB, .ref mW, .ref mL, .int lS]))] := hD
                    try dsimp only at wr_12
                    try simp only [Int32.reduceToInt, Int64.reduceToInt] at wr_12
                    refine lv_iconst (v := 0) hx hb dX8_copies_269 (by decide) ?_
                    refine kIret (u := (u_r_12, dP, 0, iW, fH, fD, fI, j0, j1, j2, j3, s0, s1, s2, st)) hx hb hr rfl hlocks hS dX8_copies_270 ?_ (hP.sub [5, 0, 1, 2, 3, 4] rfl) (hD.sub [5, 0, 1, 2, 3, 4] (by decide) rfl)
                    try dsimp only
                    repeat' (with_reducible apply And.intro)
                    all_goals first | with_reducible assumption | ((try simp only [jT_, jP_, jD_, jC_, jB_, jW_, Int32.reduceToInt, Int64.reduceToInt, true_or, or_true, true_and, and_true]) <;> omega)
                  · have t_258_10 := c_258_10
                    try simp only [kb_eq0, kb_ne0, lg_cmp_lt, lg_cmp_le, lg_cmp_gt, lg_cmp_ge, lg_cmp_eq] at t_258_10
                    try simp only [Int32.lt_iff_toInt_lt, Int32.le_iff_toInt_le, ← Int32.toInt_inj, Int64.lt_iff_toInt_lt, Int64.le_iff_toInt_le, ← Int64.toInt_inj, Int32.toInt_toInt64, Int32.reduceToInt, Int64.reduceToInt] at t_258_10
                    refine lv_iconst (v := 2) hx hb dX8_copies_261 (by decide) ?_
                    refine lv_goto (tgt := 266) hx hb dX8_copies_262 (by decide) ?_
                    refine kCallVd (wr := [(mH, .inl (cI, 512, .inl fH)), (mI, .inl (cL, 1200, .inr (.inl fI))), (mJ, .inl (cI, 4, .inl (k4i j0 j1 j2 j3))), (mS, .inl (cI, 4, .inl (k4i s0 s1 s2 st))), (mD, .inl (cL, 256, .inr (.inl fD)))]) (va_runV (As := [.int 2]) (rest := []) ⟨hx, hb, hml, hown, hts⟩ (q_go l D cI cL cB cZ cT _ m0 mH mI mJ mS mD mX mA mB mW mL aM aC mM mQ oV pL lI sW dP sT aT 0 iW iH aE mN sZ tS tA tW lS 2) (cwV 1 hts gX8_copies_X8_go rfl rfl rfl (by decide +kernel) ⟨Nat.le_of_ble_eq_true rfl, Nat.le_of_ble_eq_true rfl⟩) (kPreV hG hP hD [0] rfl (by decide) 0 8 rfl rfl rfl) rfl rfl hl.1 rfl (lv_room (Nat.le_of_ble_eq_true rfl)) dX8_copies_266 ⟨Nat.le_of_ble_eq_true rfl, Nat.le_of_ble_eq_true rfl⟩) hA hP hD hS [0] [1, 2, 3, 4, 5] rfl rfl (by decide) (by decide) (fun _ u_r_13 H locs wr_13 hP hD hS => ?_)
                    have hP : va_P D vwCl [(mH, .inl (cI, 512, .inl fH)), (mI, .inl (cL, 1200, .inr (.inl fI))), (mJ, .inl (cI, 4, .inl (k4i j0 j1 j2 j3))), (mS, .inl (cI, 4, .inl (k4i s0 s1 s2 st))), (mD, .inl (cL, 256, .inr (.inl fD))), (m0, .inr (8, [.ref mH, .int aM, .long aC, .int mM, .long mQ, .int oV, .int u_r_13, .int lI, .int sW, .int dP, .int sT, .long aT, .int 0, .int iW, .ref mI, .ref mJ, .ref mS, .ref mD, .int iH, .int aE, .int mN, .long sZ, .ref mX, .int tS, .int tA, .int tW, .ref mA, .ref mB, .ref mW, .ref mL, .int lS]))] H := hP
                    have hD : va_D A [(mH, .inl (cI, 512, .inl fH)), (mI, .inl (cL, 1200, .inr (.inl fI))), (mJ, .inl (cI, 4, .inl (k4i j0 j1 j2 j3))), (mS, .inl (cI, 4, .inl (k4i s0 s1 s2 st))), (mD, .inl (cL, 256, .inr (.inl fD))), (m0, .inr (8, [.ref mH, .int aM, .long aC, .int mM, .long mQ, .int oV, .int u_r_13, .int lI, .int sW, .int dP, .int sT, .long aT, .int 0, .int iW, .ref mI, .ref mJ, .ref mS, .ref mD, .int iH, .int aE, .int mN, .long sZ, .ref mX, .int tS, .int tA, .int tW, .ref mA, .ref mB, .ref mW, .ref mL, .int lS]))] := hD
                    try dsimp only at wr_13
                    try simp only [Int32.reduceToInt, Int64.reduceToInt] at wr_13
                    refine lv_iconst (v := 0) hx hb dX8_copies_269 (by decide) ?_
                    refine kIret (u := (u_r_13, dP, 0, iW, fH, fD, fI, j0, j1, j2, j3, s0, s1, s2, st)) hx hb hr rfl hlocks hS dX8_copies_270 ?_ (hP.sub [5, 0, 1, 2, 3, 4] rfl) (hD.sub [5, 0, 1, 2, 3, 4] (by decide) rfl)
                    try dsimp only
                    repeat' (with_reducible apply And.intro)
                    all_goals first | with_reducible assumption | ((try simp only [jT_, jP_, jD_, jC_, jB_, jW_, Int32.reduceToInt, Int64.reduceToInt, true_or, or_true, true_and, and_true]) <;> omega)
                · have t_234_9 := c_234_9
                  try simp only [kb_eq0, kb_ne0, lg_cmp_lt, lg_cmp_le, lg_cmp_gt, lg_cmp_ge, lg_cmp_eq] at t_234_9
                  try simp only [Int32.lt_iff_toInt_lt, Int32.le_iff_toInt_le, ← Int32.toInt_inj, Int64.lt_iff_toInt_lt, Int64.le_iff_toInt_le, ← Int64.toInt_inj, Int32.toInt_toInt64, Int32.reduceToInt, Int64.reduceToInt] at t_234_9
                  refine lv_aload_n hx hb dX8_copies_237 rfl (lv_at hl 4 rfl) ?_
                  refine lv_lload hx hb dX8_copies_238 (lv_at hl 0 rfl) ?_
                  refine kCallVd (wr := [(mI, .inl (cL, 1200, .inr (.inl fI))), (mJ, .inl (cI, 4, .inl (k4i j0 j1 j2 j3))), (mS, .inl (cI, 4, .inl (k4i s0 s1 s2 st))), (mD, .inl (cL, 256, .inr (.inl fD)))]) (va_runV (As := [.long vv]) (rest := []) ⟨hx, hb, hml, hown, hts⟩ (q_store l D cI cL cB cZ cT _ m0 mH mI mJ mS mD mX mA mB mW mL aM aC mM mQ oV pL lI sW dP sT aT 8 iW iH aE mN sZ tS tA tW lS fH vv (by omega)) (cwV 1 hts gX8_copies_X8_store rfl rfl rfl (by decide +kernel) ⟨Nat.le_of_ble_eq_true rfl, Nat.le_of_ble_eq_true rfl⟩) (kPreV hG hP hD [0, 1] rfl (by decide) 0 8 rfl rfl rfl) rfl rfl hl.1 rfl (lv_room (Nat.le_of_ble_eq_true rfl)) dX8_copies_240 ⟨Nat.le_of_ble_eq_true rfl, Nat.le_of_ble_eq_true rfl⟩) hA hP hD hS [0, 1] [2, 3, 4, 5] rfl rfl (by decide) (by decide) (fun _ u_r_14 H locs wr_14 hP hD hS => ?_)
                  have hP : va_P D vwCl [(mI, .inl (cL, 1200, .inr (.inl fI))), (mJ, .inl (cI, 4, .inl (k4i j0 j1 j2 j3))), (mS, .inl (cI, 4, .inl (k4i s0 s1 s2 st))), (mD, .inl (cL, 256, .inr (.inl fD))), (m0, .inr (8, [.ref mH, .int aM, .long aC, .int mM, .long mQ, .int oV, .int pL, .int lI, .int sW, .int dP, .int sT, .long aT, .int 8, .int iW, .ref mI, .ref mJ, .ref mS, .ref mD, .int iH, .int aE, .int mN, .long sZ, .ref mX, .int tS, .int tA, .int tW, .ref mA, .ref mB, .ref mW, .ref mL, .int lS])), (mH, .inl (cI, 512, .inl u_r_14))] H := hP
                  have hD : va_D A [(mI, .inl (cL, 1200, .inr (.inl fI))), (mJ, .inl (cI, 4, .inl (k4i j0 j1 j2 j3))), (mS, .inl (cI, 4, .inl (k4i s0 s1 s2 st))), (mD, .inl (cL, 256, .inr (.inl fD))), (m0, .inr (8, [.ref mH, .int aM, .long aC, .int mM, .long mQ, .int oV, .int pL, .int lI, .int sW, .int dP, .int sT, .long aT, .int 8, .int iW, .ref mI, .ref mJ, .ref mS, .ref mD, .int iH, .int aE, .int mN, .long sZ, .ref mX, .int tS, .int tA, .int tW, .ref mA, .ref mB, .ref mW, .ref mL, .int lS])), (mH, .inl (cI, 512, .inl u_r_14))] := hD
                  try dsimp only at wr_14
                  try simp only [Int32.reduceToInt, Int64.reduceToInt] at wr_14
                  refine lv_goto (tgt := 269) hx hb dX8_copies_243 (by decide) ?_
                  refine lv_iconst (v := 0) hx hb dX8_copies_269 (by decide) ?_
                  refine kIret (u := (pL, dP, 8, iW, u_r_14, fD, fI, j0, j1, j2, j3, s0, s1, s2, st)) hx hb hr rfl hlocks hS dX8_copies_270 ?_ (hP.sub [4, 5, 0, 1, 2, 3] rfl) (hD.sub [4, 5, 0, 1, 2, 3] (by decide) rfl)
                  try dsimp only
                  repeat' (with_reducible apply And.intro)
                  all_goals first | with_reducible assumption | ((try simp only [jT_, jP_, jD_, jC_, jB_, jW_, Int32.reduceToInt, Int64.reduceToInt, true_or, or_true, true_and, and_true]) <;> omega)
              refine lv_iload_n hx hb dX8_copies_165 rfl (lv_at hl 0 rfl) ?_
              refine lv_i2l hx hb dX8_copies_166 rfl ?_
              refine lv_lconst (v := 0) hx hb dX8_copies_167 (by decide) ?_
              refine lv_aload_n hx hb dX8_copies_168 rfl (lv_at hl 3 rfl) ?_
              refine va_get (D := D) (ci := 8) (v := .ref mJ) (C := RX8) (T := TX8) (N := 31) hx hb hts iX8_copies_X8 hown hK hP 0 rfl rfl 15 (by decide) (hts (.fieldLink RX8 17 "TapeCalculatorModel" "items" "[I") (List.mem_of_getElem? (i := 6) rfl)) (fun _ h9 => h9) rfl dX8_copies_169 ?_
              refine lv_iload_n hx hb dX8_copies_172 rfl (lv_at hl 1 rfl) ?_
              refine va_iald hx hb hK hP 3 0 rfl rfl (vp_in_iff.mpr (by decide)) dX8_copies_173 ?_
              refine lv_topi (fun x_15 ex_15 => ?_)
              obtain rfl : j3 = x_15 := ex_15.symm
              refine lv_iconst (v := 1) hx hb dX8_copies_174 (by decide) ?_
              refine lv_isub hx hb dX8_copies_175 ?_
              refine lv_topi (fun x_16 ex_16 => ?_)
              have hs0 := k_sub (a := j3) (b := 1) (by omega) (by decide)
              simp only [Int32.reduceToInt, show (-1 : Int32).toInt = -1 from rfl] at hs0
              rw [← ex_16] at hs0
              refine lv_i2l hx hb dX8_copies_176 rfl ?_
              refine kCallI (wr := [(m0, .inr (8, [.ref mH, .int aM, .long aC, .int mM, .long mQ, .int oV, .int pL, .int lI, .int sW, .int dP, .int sT, .long aT, .int 8, .int iW, .ref mI, .ref mJ, .ref mS, .ref mD, .int iH, .int aE, .int mN, .long sZ, .ref mX, .int tS, .int tA, .int tW, .ref mA, .ref mB, .ref mW, .ref mL, .int lS])), (mH, .inl (cI, 512, .inl fH)), (mI, .inl (cL, 1200, .inr (.inl fI))), (mJ, .inl (cI, 4, .inl (k4i j0 j1 j2 j3))), (mS, .inl (cI, 4, .inl (k4i s0 s1 s2 s3))), (mD, .inl (cL, 256, .inr (.inl fD)))]) (va_runS (As := [.long x_9.toInt64, .long 0, .long x_16.toInt64]) (rest := []) ⟨hx, hb, hml, hown, hts⟩ (q_in l D cI cL cB cZ cT _ (x_9.toInt64) 0 (x_16.toInt64)) (va_cwS 3 hts gX8_copies_X8_in rfl rfl rfl (by decide +kernel) ⟨Nat.le_of_ble_eq_true rfl, Nat.le_of_ble_eq_true rfl⟩) (kPreS hG hP hD [] rfl (by decide)) rfl rfl hl.1 rfl (lv_room (Nat.le_of_ble_eq_true rfl)) dX8_copies_177 ⟨Nat.le_of_ble_eq_true rfl, Nat.le_of_ble_eq_true rfl⟩) hA hP hD hS [] [0, 1, 2, 3, 4, 5] rfl rfl (by decide) (by decide) (fun r_17 u_r_17 H locs wr_17 hP hD hS => ?_)
              have hP : va_P D vwCl [(m0, .inr (8, [.ref mH, .int aM, .long aC, .int mM, .long mQ, .int oV, .int pL, .int lI, .int sW, .int dP, .int sT, .long aT, .int 8, .int iW, .ref mI, .ref mJ, .ref mS, .ref mD, .int iH, .int aE, .int mN, .long sZ, .ref mX, .int tS, .int tA, .int tW, .ref mA, .ref mB, .ref mW, .ref mL, .int lS])), (mH, .inl (cI, 512, .inl fH)), (mI, .inl (cL, 1200, .inr (.inl fI))), (mJ, .inl (cI, 4, .inl (k4i j0 j1 j2 j3))), (mS, .inl (cI, 4, .inl (k4i s0 s1 s2 s3))), (mD, .inl (cL, 256, .inr (.inl fD)))] H := hP
              have hD : va_D A [(m0, .inr (8, [.ref mH, .int aM, .long aC, .int mM, .long mQ, .int oV, .int pL, .int lI, .int sW, .int dP, .int sT, .long aT, .int 8, .int iW, .ref mI, .ref mJ, .ref mS, .ref mD, .int iH, .int aE, .int mN, .long sZ, .ref mX, .int tS, .int tA, .int tW, .ref mA, .ref mB, .ref mW, .ref mL, .int lS])), (mH, .inl (cI, 512, .inl fH)), (mI, .inl (cL, 1200, .inr (.inl fI))), (mJ, .inl (cI, 4, .inl (k4i j0 j1 j2 j3))), (mS, .inl (cI, 4, .inl (k4i s0 s1 s2 s3))), (mD, .inl (cL, 256, .inr (.inl fD)))] := hD
              try dsimp only at wr_17
              subst wr_17
              refine lv_if_eq (tgt := 198) hx hb dX8_copies_180 (by decide) (fun c_180_17 => ?_) (fun c_180_17 => ?_)
              · have t_180_17 := c_180_17
                try simp only [kb_eq0, kb_ne0, lg_cmp_lt, lg_cmp_le, lg_cmp_gt, lg_cmp_ge, lg_cmp_eq] at t_180_17
                try simp only [Int32.lt_iff_toInt_lt, Int32.le_iff_toInt_le, ← Int32.toInt_inj, Int64.lt_iff_toInt_lt, Int64.le_iff_toInt_le, ← Int64.toInt_inj, Int32.toInt_toInt64, Int32.reduceToInt, Int64.reduceToInt] at t_180_17
                refine lv_ldc2 (v := (-9)) hx hb hown (hts (.constantLong RX8 107 (-9)) (List.mem_of_getElem? (i := 8) rfl)) dX8_copies_198 ?_
                refine lv_lstore (lv' := [(4, .long (-9)), (3, .int x_9), (2, .int 3), (1, .int 1), (0, .ref m0)]) hx hb dX8_copies_201 hl (by decide) rfl (fun ls hl => ?_)
                refine lv_lload hx hb dX8_copies_203 (lv_at hl 0 rfl) ?_
                refine lv_ldc2 (v := (-9)) hx hb hown (hts (.constantLong RX8 107 (-9)) (List.mem_of_getElem? (i := 8) rfl)) dX8_copies_205 ?_
                refine W.lcmp hx hb dX8_copies_208 ?_
                refine lv_topi (fun x_19 ex_19 => ?_)
                obtain rfl : x_19 = 0 := ex_19.trans (by decide)
                refine lv_if_eq (tgt := 230) hx hb dX8_copies_209 (by decide) (fun c_209_19 => ?_) (fun c_209_19 => ?_)
                · have t_209_19 := c_209_19
                  try simp only [kb_eq0, kb_ne0, lg_cmp_lt, lg_cmp_le, lg_cmp_gt, lg_cmp_ge, lg_cmp_eq] at t_209_19
                  try simp only [Int32.lt_iff_toInt_lt, Int32.le_iff_toInt_le, ← Int32.toInt_inj, Int64.lt_iff_toInt_lt, Int64.le_iff_toInt_le, ← Int64.toInt_inj, Int32.toInt_toInt64, Int32.reduceToInt, Int64.reduceToInt] at t_209_19
                  exact J230 (-9) s3 (by first | with_reducible assumption | ((try simp only [jT_, jP_, jD_, jC_, jB_, jW_, Int32.reduceToInt, Int64.reduceToInt, true_or, or_true, true_and, and_true]) <;> omega)) _ _ (hP.sub [0, 1, 2, 3, 4, 5] rfl) (hD.sub [0, 1, 2, 3, 4, 5] (by decide) rfl) hS ls (lv_sub hl [0, 1, 2, 3, 4] rfl)
                · exact absurd (by decide) c_209_19
              · have t_180_17 := c_180_17
                try simp only [kb_eq0, kb_ne0, lg_cmp_lt, lg_cmp_le, lg_cmp_gt, lg_cmp_ge, lg_cmp_eq] at t_180_17
                try simp only [Int32.lt_iff_toInt_lt, Int32.le_iff_toInt_le, ← Int32.toInt_inj, Int64.lt_iff_toInt_lt, Int64.le_iff_toInt_le, ← Int64.toInt_inj, Int32.toInt_toInt64, Int32.reduceToInt, Int64.reduceToInt] at t_180_17
                refine lv_aload_n hx hb dX8_copies_183 rfl (lv_at hl 3 rfl) ?_
                refine va_get (D := D) (ci := 8) (v := .ref mI) (C := RX8) (T := TX8) (N := 31) hx hb hts iX8_copies_X8 hown hK hP 0 rfl rfl 14 (by decide) (hts (.fieldLink RX8 13 "TapeCalculatorModel" "item" "[J") (List.mem_of_getElem? (i := 7) rfl)) (fun _ h9 => h9) rfl dX8_copies_184 ?_
                refine lv_sipush (v := 300) hx hb dX8_copies_187 (by decide) ?_
                refine lv_iload_n hx hb dX8_copies_190 rfl (lv_at hl 1 rfl) ?_
                refine lv_imul hx hb dX8_copies_191 ?_
                refine lv_topi (fun x_21 ex_21 => ?_)
                obtain rfl : x_21 = 900 := ex_21.trans (by decide)
                refine lv_iload_n hx hb dX8_copies_192 rfl (lv_at hl 0 rfl) ?_
                refine lv_iadd hx hb dX8_copies_193 ?_
                refine va_lald hx hb hK hP 2 1 rfl rfl (vp_in_iff.mpr (by have hx9 := k_addg (a := 900) (b := x_9) (by decide) (by omega); simp only [Int32.reduceToInt] at hx9; omega)) dX8_copies_194 ?_
                refine lv_goto (tgt := 201) hx hb dX8_copies_195 (by decide) ?_
                refine lv_topl (fun x_22 ex_22 => ?_)
                refine lv_lstore (lv' := [(4, .long x_22), (3, .int x_9), (2, .int 3), (1, .int 1), (0, .ref m0)]) hx hb dX8_copies_201 hl (by decide) rfl (fun ls hl => ?_)
                refine lv_lload hx hb dX8_copies_203 (lv_at hl 0 rfl) ?_
                refine lv_ldc2 (v := (-9)) hx hb hown (hts (.constantLong RX8 107 (-9)) (List.mem_of_getElem? (i := 8) rfl)) dX8_copies_205 ?_
                refine W.lcmp hx hb dX8_copies_208 ?_
                refine lv_if_eq (tgt := 230) hx hb dX8_copies_209 (by decide) (fun c_209_22 => ?_) (fun c_209_22 => ?_)
                · have t_209_22 := c_209_22
                  try simp only [kb_eq0, kb_ne0, lg_cmp_lt, lg_cmp_le, lg_cmp_gt, lg_cmp_ge, lg_cmp_eq] at t_209_22
                  try simp only [Int32.lt_iff_toInt_lt, Int32.le_iff_toInt_le, ← Int32.toInt_inj, Int64.lt_iff_toInt_lt, Int64.le_iff_toInt_le, ← Int64.toInt_inj, Int32.toInt_toInt64, Int32.reduceToInt, Int64.reduceToInt] at t_209_22
                  exact J230 x_22 s3 (by first | with_reducible assumption | ((try simp only [jT_, jP_, jD_, jC_, jB_, jW_, Int32.reduceToInt, Int64.reduceToInt, true_or, or_true, true_and, and_true]) <;> omega)) _ _ (hP.sub [0, 1, 2, 3, 4, 5] rfl) (hD.sub [0, 1, 2, 3, 4, 5] (by decide) rfl) hS ls (lv_sub hl [0, 1, 2, 3, 4] rfl)
                · have t_209_22 := c_209_22
                  try simp only [kb_eq0, kb_ne0, lg_cmp_lt, lg_cmp_le, lg_cmp_gt, lg_cmp_ge, lg_cmp_eq] at t_209_22
                  try simp only [Int32.lt_iff_toInt_lt, Int32.le_iff_toInt_le, ← Int32.toInt_inj, Int64.lt_iff_toInt_lt, Int64.le_iff_toInt_le, ← Int64.toInt_inj, Int32.toInt_toInt64, Int32.reduceToInt, Int64.reduceToInt] at t_209_22
                  refine lv_aload_n hx hb dX8_copies_212 rfl (lv_at hl 4 rfl) ?_
                  refine va_get (D := D) (ci := 8) (v := .ref mS) (C := RX8) (T := TX8) (N := 31) hx hb hts iX8_copies_X8 hown hK hP 0 rfl rfl 16 (by decide) (hts (.fieldLink RX8 20 "TapeCalculatorModel" "stands" "[I") (List.mem_of_getElem? (i := 5) rfl)) (fun _ h9 => h9) rfl dX8_copies_213 ?_
                  refine lv_iload_n hx hb dX8_copies_216 rfl (lv_at hl 2 rfl) ?_
                  refine lv_dup2_11 hx hb dX8_copies_217 rfl rfl ?_
                  refine va_iald hx hb hK hP 4 0 rfl rfl (vp_in_iff.mpr (by decide)) dX8_copies_218 ?_
                  refine lv_topi (fun x_24 ex_24 => ?_)
                  obtain rfl : s3 = x_24 := ex_24.symm
                  refine lv_iload_n hx hb dX8_copies_219 rfl (lv_at hl 3 rfl) ?_
                  refine lv_if_eq (tgt := 227) hx hb dX8_copies_220 (by decide) (fun c_220_24 => ?_) (fun c_220_24 => ?_)
                  · exact absurd c_220_24 (by decide)
                  · have t_220_24 := c_220_24
                    try simp only [kb_eq0, kb_ne0, lg_cmp_lt, lg_cmp_le, lg_cmp_gt, lg_cmp_ge, lg_cmp_eq] at t_220_24
                    try simp only [Int32.lt_iff_toInt_lt, Int32.le_iff_toInt_le, ← Int32.toInt_inj, Int64.lt_iff_toInt_lt, Int64.le_iff_toInt_le, ← Int64.toInt_inj, Int32.toInt_toInt64, Int32.reduceToInt, Int64.reduceToInt] at t_220_24
                    refine lv_iconst (v := (-1)) hx hb dX8_copies_223 (by decide) ?_
                    refine lv_goto (tgt := 228) hx hb dX8_copies_224 (by decide) ?_
                    refine lv_iadd hx hb dX8_copies_228 ?_
                    refine lv_topi (fun x_26 ex_26 => ?_)
                    have hs2 := k_addg (a := s3) (b := (-1)) (by omega) (by decide)
                    simp only [Int32.reduceToInt, show (-1 : Int32).toInt = -1 from rfl] at hs2
                    rw [← ex_26] at hs2
                    refine va_iast hx hb hK hP hD hS 4 0 rfl rfl (vp_in_iff.mpr (by decide)) dX8_copies_229 (fun H locs hP hD hS => ?_)
                    rw [k4i_3] at hP hD
                    have hP : va_P D vwCl [(m0, .inr (8, [.ref mH, .int aM, .long aC, .int mM, .long mQ, .int oV, .int pL, .int lI, .int sW, .int dP, .int sT, .long aT, .int 8, .int iW, .ref mI, .ref mJ, .ref mS, .ref mD, .int iH, .int aE, .int mN, .long sZ, .ref mX, .int tS, .int tA, .int tW, .ref mA, .ref mB, .ref mW, .ref mL, .int lS])), (mH, .inl (cI, 512, .inl fH)), (mI, .inl (cL, 1200, .inr (.inl fI))), (mJ, .inl (cI, 4, .inl (k4i j0 j1 j2 j3))), (mS, .inl (cI, 4, .inl (k4i s0 s1 s2 x_26))), (mD, .inl (cL, 256, .inr (.inl fD)))] H := hP
                    have hD : va_D A [(m0, .inr (8, [.ref mH, .int aM, .long aC, .int mM, .long mQ, .int oV, .int pL, .int lI, .int sW, .int dP, .int sT, .long aT, .int 8, .int iW, .ref mI, .ref mJ, .ref mS, .ref mD, .int iH, .int aE, .int mN, .long sZ, .ref mX, .int tS, .int tA, .int tW, .ref mA, .ref mB, .ref mW, .ref mL, .int lS])), (mH, .inl (cI, 512, .inl fH)), (mI, .inl (cL, 1200, .inr (.inl fI))), (mJ, .inl (cI, 4, .inl (k4i j0 j1 j2 j3))), (mS, .inl (cI, 4, .inl (k4i s0 s1 s2 x_26))), (mD, .inl (cL, 256, .inr (.inl fD)))] := hD
                    exact J230 x_22 x_26 (by first | with_reducible assumption | ((try simp only [jT_, jP_, jD_, jC_, jB_, jW_, Int32.reduceToInt, Int64.reduceToInt, true_or, or_true, true_and, and_true]) <;> omega)) _ _ (hP.sub [0, 1, 2, 3, 4, 5] rfl) (hD.sub [0, 1, 2, 3, 4, 5] (by decide) rfl) hS ls (lv_sub hl [0, 1, 2, 3, 4] rfl)
      · exact absurd (by decide) c_79_2
    · exact absurd (by decide) c_16_1
  · exact absurd c_4_0 (by decide)
set_option maxRecDepth 100000 in
set_option maxHeartbeats 4000000 in
theorem q_copies_9 (l : Launch) (D : va_G) (cI cL cB cZ cT : ClassId) (sz : Nat) (m0 mH mI mJ mS mD mX mA mB mW mL : Nat) (aM : Int32) (aC : Int64) (mM : Int32) (mQ : Int64) (oV pL lI sW dP sT : Int32) (aT : Int64) (iW iH aE mN : Int32) (sZ : Int64) (tS tA tW lS : Int32) (fH : Nat → Int32) (fI : Nat → Int64) (j0 j1 j2 j3 : Int32) (s0 s1 s2 s3 : Int32) (fD : Nat → Int64) (hpl : jP_ pL) (hdp : jD_ dP) (hch : jC_ 9) (hiw : jW_ iW 9) (ht0 : jT_ s0 j0) (ht1 : jT_ s1 j1) (ht2 : jT_ s2 j2) (ht3 : jT_ s3 j3) (had : 0 ≤ aE.toInt ∧ aE.toInt ≤ 511 ∧ (iH.toInt = 0 ∨ aE.toInt ≤ 510)) : kM (S := (Int32 × Int32 × Int32 × Int32 × (Nat → Int32) × (Nat → Int64) × (Nat → Int64) × Int32 × Int32 × Int32 × Int32 × Int32 × Int32 × Int32 × Int32)) l yX8_copies wsX8_copies ({ frames := 2, cells := 0, slots := 0, locals := 45 }) D (kT cI cL cB cZ cT) [.ref m0] [(m0, .inr (8, [.ref mH, .int aM, .long aC, .int mM, .long mQ, .int oV, .int pL, .int lI, .int sW, .int dP, .int sT, .long aT, .int 9, .int iW, .ref mI, .ref mJ, .ref mS, .ref mD, .int iH, .int aE, .int mN, .long sZ, .ref mX, .int tS, .int tA, .int tW, .ref mA, .ref mB, .ref mW, .ref mL, .int lS])), (mH, .inl (cI, 512, .inl fH)), (mI, .inl (cL, 1200, .inr (.inl fI))), (mJ, .inl (cI, 4, .inl (k4i j0 j1 j2 j3))), (mS, .inl (cI, 4, .inl (k4i s0 s1 s2 s3))), (mD, .inl (cL, 256, .inr (.inl fD)))] sz eI (fun r u => (0 ≤ r.toInt ∧ r.toInt ≤ 6) ∧ jP_ (u.1) ∧ jD_ (u.2.1) ∧ jC_ (u.2.2.1) ∧ jW_ (u.2.2.2.1) (u.2.2.1) ∧ jT_ (u.2.2.2.2.2.2.2.2.2.2.2.1) (u.2.2.2.2.2.2.2.1) ∧ jT_ (u.2.2.2.2.2.2.2.2.2.2.2.2.1) (u.2.2.2.2.2.2.2.2.1) ∧ jT_ (u.2.2.2.2.2.2.2.2.2.2.2.2.2.1) (u.2.2.2.2.2.2.2.2.2.1) ∧ jT_ (u.2.2.2.2.2.2.2.2.2.2.2.2.2.2) (u.2.2.2.2.2.2.2.2.2.2.1)) (fun u => [(m0, .inr (8, [.ref mH, .int aM, .long aC, .int mM, .long mQ, .int oV, .int u.1, .int lI, .int sW, .int u.2.1, .int sT, .long aT, .int u.2.2.1, .int u.2.2.2.1, .ref mI, .ref mJ, .ref mS, .ref mD, .int iH, .int aE, .int mN, .long sZ, .ref mX, .int tS, .int tA, .int tW, .ref mA, .ref mB, .ref mW, .ref mL, .int lS])), (mH, .inl (cI, 512, .inl u.2.2.2.2.1)), (mI, .inl (cL, 1200, .inr (.inl u.2.2.2.2.2.2.1))), (mJ, .inl (cI, 4, .inl (k4i u.2.2.2.2.2.2.2.1 u.2.2.2.2.2.2.2.2.1 u.2.2.2.2.2.2.2.2.2.1 u.2.2.2.2.2.2.2.2.2.2.1))), (mS, .inl (cI, 4, .inl (k4i u.2.2.2.2.2.2.2.2.2.2.2.1 u.2.2.2.2.2.2.2.2.2.2.2.2.1 u.2.2.2.2.2.2.2.2.2.2.2.2.2.1 u.2.2.2.2.2.2.2.2.2.2.2.2.2.2))), (mD, .inl (cL, 256, .inr (.inl u.2.2.2.2.2.1)))]) 0 0 := by
  refine kStart (cc := cX8_copies) (maxL := 6) (ret := (some .int)) (own := RX8) (by decide) rfl rfl (Nat.le_of_ble_eq_true rfl) ?_
  intro p e s m args below meth c A ls hx hb hr hml hown hts hlocks hnm hsz hA hG hP hD hS hl
  have hK := hG.1
  have hl : lv_has ls 6 [(0, .ref m0)] := hl
  refine lv_aload_n hx hb dX8_copies_0 rfl (lv_at hl 0 rfl) ?_
  refine va_get (D := D) (ci := 8) (v := .int 9) (C := RX8) (T := TX8) (N := 31) hx hb hts iX8_copies_X8 hown hK hP 0 rfl rfl 12 (by decide) (hts (.fieldLink RX8 43 "TapeCalculatorModel" "chosen" "I") (List.mem_of_getElem? (i := 1) rfl)) (fun _ h9 => h9) rfl dX8_copies_1 ?_
  refine lv_if_ne (tgt := 10) hx hb dX8_copies_4 (by decide) (fun c_4_0 => ?_) (fun c_4_0 => ?_)
  · have t_4_0 := c_4_0
    try simp only [kb_eq0, kb_ne0, lg_cmp_lt, lg_cmp_le, lg_cmp_gt, lg_cmp_ge, lg_cmp_eq] at t_4_0
    try simp only [Int32.lt_iff_toInt_lt, Int32.le_iff_toInt_le, ← Int32.toInt_inj, Int64.lt_iff_toInt_lt, Int64.le_iff_toInt_le, ← Int64.toInt_inj, Int32.toInt_toInt64, Int32.reduceToInt, Int64.reduceToInt] at t_4_0
    refine lv_aload_n hx hb dX8_copies_10 rfl (lv_at hl 0 rfl) ?_
    refine va_get (D := D) (ci := 8) (v := .int 9) (C := RX8) (T := TX8) (N := 31) hx hb hts iX8_copies_X8 hown hK hP 0 rfl rfl 12 (by decide) (hts (.fieldLink RX8 43 "TapeCalculatorModel" "chosen" "I") (List.mem_of_getElem? (i := 1) rfl)) (fun _ h9 => h9) rfl dX8_copies_11 ?_
    refine lv_bipush (v := 12) hx hb dX8_copies_14 (by decide) ?_
    refine lv_icmp_le (tgt := 73) hx hb dX8_copies_16 (by decide) (fun c_16_1 => ?_) (fun c_16_1 => ?_)
    · have t_16_1 := c_16_1
      try simp only [kb_eq0, kb_ne0, lg_cmp_lt, lg_cmp_le, lg_cmp_gt, lg_cmp_ge, lg_cmp_eq] at t_16_1
      try simp only [Int32.lt_iff_toInt_lt, Int32.le_iff_toInt_le, ← Int32.toInt_inj, Int64.lt_iff_toInt_lt, Int64.le_iff_toInt_le, ← Int64.toInt_inj, Int32.toInt_toInt64, Int32.reduceToInt, Int64.reduceToInt] at t_16_1
      refine lv_aload_n hx hb dX8_copies_73 rfl (lv_at hl 0 rfl) ?_
      refine va_get (D := D) (ci := 8) (v := .int 9) (C := RX8) (T := TX8) (N := 31) hx hb hts iX8_copies_X8 hown hK hP 0 rfl rfl 12 (by decide) (hts (.fieldLink RX8 43 "TapeCalculatorModel" "chosen" "I") (List.mem_of_getElem? (i := 1) rfl)) (fun _ h9 => h9) rfl dX8_copies_74 ?_
      refine lv_bipush (v := 8) hx hb dX8_copies_77 (by decide) ?_
      refine lv_icmp_le (tgt := 109) hx hb dX8_copies_79 (by decide) (fun c_79_2 => ?_) (fun c_79_2 => ?_)
      · exact absurd c_79_2 (by decide)
      · have t_79_2 := c_79_2
        try simp only [kb_eq0, kb_ne0, lg_cmp_lt, lg_cmp_le, lg_cmp_gt, lg_cmp_ge, lg_cmp_eq] at t_79_2
        try simp only [Int32.lt_iff_toInt_lt, Int32.le_iff_toInt_le, ← Int32.toInt_inj, Int64.lt_iff_toInt_lt, Int64.le_iff_toInt_le, ← Int64.toInt_inj, Int32.toInt_toInt64, Int32.reduceToInt, Int64.reduceToInt] at t_79_2
        refine lv_aload_n hx hb dX8_copies_82 rfl (lv_at hl 0 rfl) ?_
        refine lv_aload_n hx hb dX8_copies_83 rfl (lv_at hl 0 rfl) ?_
        refine va_get (D := D) (ci := 8) (v := .int 9) (C := RX8) (T := TX8) (N := 31) hx hb hts iX8_copies_X8 hown hK hP 0 rfl rfl 12 (by decide) (hts (.fieldLink RX8 43 "TapeCalculatorModel" "chosen" "I") (List.mem_of_getElem? (i := 1) rfl)) (fun _ h9 => h9) rfl dX8_copies_84 ?_
        refine lv_bipush (v := 9) hx hb dX8_copies_87 (by decide) ?_
        refine lv_isub hx hb dX8_copies_89 ?_
        refine lv_topi (fun x_4 ex_4 => ?_)
        obtain rfl : x_4 = 0 := ex_4.trans (by decide)
        refine lv_aload_n hx hb dX8_copies_90 rfl (lv_at hl 0 rfl) ?_
        refine kCallL (wr := [(mI, .inl (cL, 1200, .inr (.inl fI))), (mJ, .inl (cI, 4, .inl (k4i j0 j1 j2 j3))), (mS, .inl (cI, 4, .inl (k4i s0 s1 s2 s3))), (mD, .inl (cL, 256, .inr (.inl fD)))]) (va_runV (As := []) (rest := [.int 0, .ref m0]) ⟨hx, hb, hml, hown, hts⟩ (q_operandBits l D cI cL cB cZ cT _ m0 mH mI mJ mS mD mX mA mB mW mL aM aC mM mQ oV pL lI sW dP sT aT 9 iW iH aE mN sZ tS tA tW lS fH (by omega)) (cwV 0 hts gX8_copies_X8_operandBits rfl rfl rfl (by decide +kernel) ⟨Nat.le_of_ble_eq_true rfl, Nat.le_of_ble_eq_true rfl⟩) (kPreV hG hP hD [0, 1] rfl (by decide) 0 8 rfl rfl rfl) rfl rfl hl.1 rfl (lv_room (Nat.le_of_ble_eq_true rfl)) dX8_copies_91 ⟨Nat.le_of_ble_eq_true rfl, Nat.le_of_ble_eq_true rfl⟩) hA hP hD hS [0, 1] [2, 3, 4, 5] rfl rfl (by decide) (by decide) (fun r_5 u_r_5 H locs wr_5 hP hD hS => ?_)
        have hP : va_P D vwCl [(mI, .inl (cL, 1200, .inr (.inl fI))), (mJ, .inl (cI, 4, .inl (k4i j0 j1 j2 j3))), (mS, .inl (cI, 4, .inl (k4i s0 s1 s2 s3))), (mD, .inl (cL, 256, .inr (.inl fD))), (m0, .inr (8, [.ref mH, .int aM, .long aC, .int mM, .long mQ, .int oV, .int pL, .int lI, .int sW, .int dP, .int sT, .long aT, .int 9, .int iW, .ref mI, .ref mJ, .ref mS, .ref mD, .int iH, .int aE, .int mN, .long sZ, .ref mX, .int tS, .int tA, .int tW, .ref mA, .ref mB, .ref mW, .ref mL, .int lS])), (mH, .inl (cI, 512, .inl fH))] H := hP
        have hD : va_D A [(mI, .inl (cL, 1200, .inr (.inl fI))), (mJ, .inl (cI, 4, .inl (k4i j0 j1 j2 j3))), (mS, .inl (cI, 4, .inl (k4i s0 s1 s2 s3))), (mD, .inl (cL, 256, .inr (.inl fD))), (m0, .inr (8, [.ref mH, .int aM, .long aC, .int mM, .long mQ, .int oV, .int pL, .int lI, .int sW, .int dP, .int sT, .long aT, .int 9, .int iW, .ref mI, .ref mJ, .ref mS, .ref mD, .int iH, .int aE, .int mN, .long sZ, .ref mX, .int tS, .int tA, .int tW, .ref mA, .ref mB, .ref mW, .ref mL, .int lS])), (mH, .inl (cI, 512, .inl fH))] := hD
        try dsimp only at wr_5
        try simp only [Int32.reduceToInt, Int64.reduceToInt] at wr_5
        refine kCallI (wr := [(mD, .inl (cL, 256, .inr (.inl fD))), (mH, .inl (cI, 512, .inl fH))]) (va_runV (As := [.int 0, .long r_5]) (rest := []) ⟨hx, hb, hml, hown, hts⟩ (q_puts l D cI cL cB cZ cT _ m0 mH mI mJ mS mD mX mA mB mW mL aM aC mM mQ oV pL lI sW dP sT aT 9 iW iH aE mN sZ tS tA tW lS fI j0 j1 j2 j3 s0 s1 s2 s3 0 r_5 (by first | with_reducible assumption | ((try simp only [jT_, jP_, jD_, jC_, jB_, jW_, Int32.reduceToInt, Int64.reduceToInt, true_or, or_true, true_and, and_true]) <;> omega)) (by first | with_reducible assumption | ((try simp only [jT_, jP_, jD_, jC_, jB_, jW_, Int32.reduceToInt, Int64.reduceToInt, true_or, or_true, true_and, and_true]) <;> omega)) (by first | with_reducible assumption | ((try simp only [jT_, jP_, jD_, jC_, jB_, jW_, Int32.reduceToInt, Int64.reduceToInt, true_or, or_true, true_and, and_true]) <;> omega)) (by first | with_reducible assumption | ((try simp only [jT_, jP_, jD_, jC_, jB_, jW_, Int32.reduceToInt, Int64.reduceToInt, true_or, or_true, true_and, and_true]) <;> omega)) (by decide)) (cwV 2 hts gX8_copies_X8_puts rfl rfl rfl (by decide +kernel) ⟨Nat.le_of_ble_eq_true rfl, Nat.le_of_ble_eq_true rfl⟩) (kPreV hG hP hD [4, 0, 1, 2] rfl (by decide) 0 8 rfl rfl rfl) rfl rfl hl.1 rfl (lv_room (Nat.le_of_ble_eq_true rfl)) dX8_copies_94 ⟨Nat.le_of_ble_eq_true rfl, Nat.le_of_ble_eq_true rfl⟩) hA hP hD hS [4, 0, 1, 2] [3, 5] rfl rfl (by decide) (by decide) (fun r_6 u_r_6 H locs wr_6 hP hD hS => ?_)
        have hP : va_P D vwCl [(mD, .inl (cL, 256, .inr (.inl fD))), (mH, .inl (cI, 512, .inl fH)), (m0, .inr (8, [.ref mH, .int aM, .long aC, .int mM, .long mQ, .int oV, .int pL, .int lI, .int sW, .int dP, .int sT, .long aT, .int 9, .int iW, .ref mI, .ref mJ, .ref mS, .ref mD, .int iH, .int aE, .int mN, .long sZ, .ref mX, .int tS, .int tA, .int tW, .ref mA, .ref mB, .ref mW, .ref mL, .int lS])), (mI, .inl (cL, 1200, .inr (.inl u_r_6.1))), (mJ, .inl (cI, 4, .inl (k4i u_r_6.2.1 u_r_6.2.2.1 u_r_6.2.2.2.1 u_r_6.2.2.2.2.1))), (mS, .inl (cI, 4, .inl (k4i u_r_6.2.2.2.2.2.1 u_r_6.2.2.2.2.2.2.1 u_r_6.2.2.2.2.2.2.2.1 u_r_6.2.2.2.2.2.2.2.2)))] H := hP
        have hD : va_D A [(mD, .inl (cL, 256, .inr (.inl fD))), (mH, .inl (cI, 512, .inl fH)), (m0, .inr (8, [.ref mH, .int aM, .long aC, .int mM, .long mQ, .int oV, .int pL, .int lI, .int sW, .int dP, .int sT, .long aT, .int 9, .int iW, .ref mI, .ref mJ, .ref mS, .ref mD, .int iH, .int aE, .int mN, .long sZ, .ref mX, .int tS, .int tA, .int tW, .ref mA, .ref mB, .ref mW, .ref mL, .int lS])), (mI, .inl (cL, 1200, .inr (.inl u_r_6.1))), (mJ, .inl (cI, 4, .inl (k4i u_r_6.2.1 u_r_6.2.2.1 u_r_6.2.2.2.1 u_r_6.2.2.2.2.1))), (mS, .inl (cI, 4, .inl (k4i u_r_6.2.2.2.2.2.1 u_r_6.2.2.2.2.2.2.1 u_r_6.2.2.2.2.2.2.2.1 u_r_6.2.2.2.2.2.2.2.2)))] := hD
        try dsimp only at wr_6
        try simp only [Int32.reduceToInt, Int64.reduceToInt] at wr_6
        obtain ⟨wr_6_0, wr_6_1, wr_6_2, wr_6_3, wr_6_4⟩ := wr_6
        refine lv_if_ne (tgt := 102) hx hb dX8_copies_97 (by decide) (fun c_97_6 => ?_) (fun c_97_6 => ?_)
        · have t_97_6 := c_97_6
          try simp only [kb_eq0, kb_ne0, lg_cmp_lt, lg_cmp_le, lg_cmp_gt, lg_cmp_ge, lg_cmp_eq] at t_97_6
          try simp only [Int32.lt_iff_toInt_lt, Int32.le_iff_toInt_le, ← Int32.toInt_inj, Int64.lt_iff_toInt_lt, Int64.le_iff_toInt_le, ← Int64.toInt_inj, Int32.toInt_toInt64, Int32.reduceToInt, Int64.reduceToInt] at t_97_6
          refine lv_aload_n hx hb dX8_copies_102 rfl (lv_at hl 0 rfl) ?_
          refine lv_iconst (v := 1) hx hb dX8_copies_103 (by decide) ?_
          refine va_put (D := D) (ci := 8) (v := .int 1) (ty := .boolean) (C := RX8) (T := TX8) (N := 31) hx hb hts iX8_copies_X8 tyX8 tyX8_ok nmX8 hown hK hP hD hS 2 rfl rfl 13 (by decide) (hts (.fieldLink RX8 115 "TapeCalculatorModel" "isWritten" "Z") (List.mem_of_getElem? (i := 4) rfl)) (fun _ h9 => h9) rfl (by decide +kernel) rfl rfl (Nat.le_of_ble_eq_true rfl) dX8_copies_104 (fun H locs hP hD hS => ?_)
          have hP : va_P D vwCl [(mD, .inl (cL, 256, .inr (.inl fD))), (mH, .inl (cI, 512, .inl fH)), (m0, .inr (8, [.ref mH, .int aM, .long aC, .int mM, .long mQ, .int oV, .int pL, .int lI, .int sW, .int dP, .int sT, .long aT, .int 9, .int 1, .ref mI, .ref mJ, .ref mS, .ref mD, .int iH, .int aE, .int mN, .long sZ, .ref mX, .int tS, .int tA, .int tW, .ref mA, .ref mB, .ref mW, .ref mL, .int lS])), (mI, .inl (cL, 1200, .inr (.inl u_r_6.1))), (mJ, .inl (cI, 4, .inl (k4i u_r_6.2.1 u_r_6.2.2.1 u_r_6.2.2.2.1 u_r_6.2.2.2.2.1))), (mS, .inl (cI, 4, .inl (k4i u_r_6.2.2.2.2.2.1 u_r_6.2.2.2.2.2.2.1 u_r_6.2.2.2.2.2.2.2.1 u_r_6.2.2.2.2.2.2.2.2)))] H := hP
          have hD : va_D A [(mD, .inl (cL, 256, .inr (.inl fD))), (mH, .inl (cI, 512, .inl fH)), (m0, .inr (8, [.ref mH, .int aM, .long aC, .int mM, .long mQ, .int oV, .int pL, .int lI, .int sW, .int dP, .int sT, .long aT, .int 9, .int 1, .ref mI, .ref mJ, .ref mS, .ref mD, .int iH, .int aE, .int mN, .long sZ, .ref mX, .int tS, .int tA, .int tW, .ref mA, .ref mB, .ref mW, .ref mL, .int lS])), (mI, .inl (cL, 1200, .inr (.inl u_r_6.1))), (mJ, .inl (cI, 4, .inl (k4i u_r_6.2.1 u_r_6.2.2.1 u_r_6.2.2.2.1 u_r_6.2.2.2.2.1))), (mS, .inl (cI, 4, .inl (k4i u_r_6.2.2.2.2.2.1 u_r_6.2.2.2.2.2.2.1 u_r_6.2.2.2.2.2.2.2.1 u_r_6.2.2.2.2.2.2.2.2)))] := hD
          refine lv_iconst (v := 0) hx hb dX8_copies_107 (by decide) ?_
          refine kIret (u := (pL, dP, 9, 1, fH, fD, u_r_6.1, u_r_6.2.1, u_r_6.2.2.1, u_r_6.2.2.2.1, u_r_6.2.2.2.2.1, u_r_6.2.2.2.2.2.1, u_r_6.2.2.2.2.2.2.1, u_r_6.2.2.2.2.2.2.2.1, u_r_6.2.2.2.2.2.2.2.2)) hx hb hr rfl hlocks hS dX8_copies_108 ?_ (hP.sub [2, 1, 3, 4, 5, 0] rfl) (hD.sub [2, 1, 3, 4, 5, 0] (by decide) rfl)
          try dsimp only
          repeat' (with_reducible apply And.intro)
          all_goals first | with_reducible assumption | ((try simp only [jT_, jP_, jD_, jC_, jB_, jW_, Int32.reduceToInt, Int64.reduceToInt, true_or, or_true, true_and, and_true]) <;> omega)
        · have t_97_6 := c_97_6
          try simp only [kb_eq0, kb_ne0, lg_cmp_lt, lg_cmp_le, lg_cmp_gt, lg_cmp_ge, lg_cmp_eq] at t_97_6
          try simp only [Int32.lt_iff_toInt_lt, Int32.le_iff_toInt_le, ← Int32.toInt_inj, Int64.lt_iff_toInt_lt, Int64.le_iff_toInt_le, ← Int64.toInt_inj, Int32.toInt_toInt64, Int32.reduceToInt, Int64.reduceToInt] at t_97_6
          refine lv_iconst (v := 5) hx hb dX8_copies_100 (by decide) ?_
          refine kIret (u := (pL, dP, 9, iW, fH, fD, u_r_6.1, u_r_6.2.1, u_r_6.2.2.1, u_r_6.2.2.2.1, u_r_6.2.2.2.2.1, u_r_6.2.2.2.2.2.1, u_r_6.2.2.2.2.2.2.1, u_r_6.2.2.2.2.2.2.2.1, u_r_6.2.2.2.2.2.2.2.2)) hx hb hr rfl hlocks hS dX8_copies_101 ?_ (hP.sub [2, 1, 3, 4, 5, 0] rfl) (hD.sub [2, 1, 3, 4, 5, 0] (by decide) rfl)
          try dsimp only
          repeat' (with_reducible apply And.intro)
          all_goals first | with_reducible assumption | ((try simp only [jT_, jP_, jD_, jC_, jB_, jW_, Int32.reduceToInt, Int64.reduceToInt, true_or, or_true, true_and, and_true]) <;> omega)
    · exact absurd (by decide) c_16_1
  · exact absurd c_4_0 (by decide)
set_option maxRecDepth 100000 in
set_option maxHeartbeats 4000000 in
theorem q_copies_10 (l : Launch) (D : va_G) (cI cL cB cZ cT : ClassId) (sz : Nat) (m0 mH mI mJ mS mD mX mA mB mW mL : Nat) (aM : Int32) (aC : Int64) (mM : Int32) (mQ : Int64) (oV pL lI sW dP sT : Int32) (aT : Int64) (iW iH aE mN : Int32) (sZ : Int64) (tS tA tW lS : Int32) (fH : Nat → Int32) (fI : Nat → Int64) (j0 j1 j2 j3 : Int32) (s0 s1 s2 s3 : Int32) (fD : Nat → Int64) (hpl : jP_ pL) (hdp : jD_ dP) (hch : jC_ 10) (hiw : jW_ iW 10) (ht0 : jT_ s0 j0) (ht1 : jT_ s1 j1) (ht2 : jT_ s2 j2) (ht3 : jT_ s3 j3) (had : 0 ≤ aE.toInt ∧ aE.toInt ≤ 511 ∧ (iH.toInt = 0 ∨ aE.toInt ≤ 510)) : kM (S := (Int32 × Int32 × Int32 × Int32 × (Nat → Int32) × (Nat → Int64) × (Nat → Int64) × Int32 × Int32 × Int32 × Int32 × Int32 × Int32 × Int32 × Int32)) l yX8_copies wsX8_copies ({ frames := 2, cells := 0, slots := 0, locals := 45 }) D (kT cI cL cB cZ cT) [.ref m0] [(m0, .inr (8, [.ref mH, .int aM, .long aC, .int mM, .long mQ, .int oV, .int pL, .int lI, .int sW, .int dP, .int sT, .long aT, .int 10, .int iW, .ref mI, .ref mJ, .ref mS, .ref mD, .int iH, .int aE, .int mN, .long sZ, .ref mX, .int tS, .int tA, .int tW, .ref mA, .ref mB, .ref mW, .ref mL, .int lS])), (mH, .inl (cI, 512, .inl fH)), (mI, .inl (cL, 1200, .inr (.inl fI))), (mJ, .inl (cI, 4, .inl (k4i j0 j1 j2 j3))), (mS, .inl (cI, 4, .inl (k4i s0 s1 s2 s3))), (mD, .inl (cL, 256, .inr (.inl fD)))] sz eI (fun r u => (0 ≤ r.toInt ∧ r.toInt ≤ 6) ∧ jP_ (u.1) ∧ jD_ (u.2.1) ∧ jC_ (u.2.2.1) ∧ jW_ (u.2.2.2.1) (u.2.2.1) ∧ jT_ (u.2.2.2.2.2.2.2.2.2.2.2.1) (u.2.2.2.2.2.2.2.1) ∧ jT_ (u.2.2.2.2.2.2.2.2.2.2.2.2.1) (u.2.2.2.2.2.2.2.2.1) ∧ jT_ (u.2.2.2.2.2.2.2.2.2.2.2.2.2.1) (u.2.2.2.2.2.2.2.2.2.1) ∧ jT_ (u.2.2.2.2.2.2.2.2.2.2.2.2.2.2) (u.2.2.2.2.2.2.2.2.2.2.1)) (fun u => [(m0, .inr (8, [.ref mH, .int aM, .long aC, .int mM, .long mQ, .int oV, .int u.1, .int lI, .int sW, .int u.2.1, .int sT, .long aT, .int u.2.2.1, .int u.2.2.2.1, .ref mI, .ref mJ, .ref mS, .ref mD, .int iH, .int aE, .int mN, .long sZ, .ref mX, .int tS, .int tA, .int tW, .ref mA, .ref mB, .ref mW, .ref mL, .int lS])), (mH, .inl (cI, 512, .inl u.2.2.2.2.1)), (mI, .inl (cL, 1200, .inr (.inl u.2.2.2.2.2.2.1))), (mJ, .inl (cI, 4, .inl (k4i u.2.2.2.2.2.2.2.1 u.2.2.2.2.2.2.2.2.1 u.2.2.2.2.2.2.2.2.2.1 u.2.2.2.2.2.2.2.2.2.2.1))), (mS, .inl (cI, 4, .inl (k4i u.2.2.2.2.2.2.2.2.2.2.2.1 u.2.2.2.2.2.2.2.2.2.2.2.2.1 u.2.2.2.2.2.2.2.2.2.2.2.2.2.1 u.2.2.2.2.2.2.2.2.2.2.2.2.2.2))), (mD, .inl (cL, 256, .inr (.inl u.2.2.2.2.2.1)))]) 0 0 := by
  refine kStart (cc := cX8_copies) (maxL := 6) (ret := (some .int)) (own := RX8) (by decide) rfl rfl (Nat.le_of_ble_eq_true rfl) ?_
  intro p e s m args below meth c A ls hx hb hr hml hown hts hlocks hnm hsz hA hG hP hD hS hl
  have hK := hG.1
  have hl : lv_has ls 6 [(0, .ref m0)] := hl
  refine lv_aload_n hx hb dX8_copies_0 rfl (lv_at hl 0 rfl) ?_
  refine va_get (D := D) (ci := 8) (v := .int 10) (C := RX8) (T := TX8) (N := 31) hx hb hts iX8_copies_X8 hown hK hP 0 rfl rfl 12 (by decide) (hts (.fieldLink RX8 43 "TapeCalculatorModel" "chosen" "I") (List.mem_of_getElem? (i := 1) rfl)) (fun _ h9 => h9) rfl dX8_copies_1 ?_
  refine lv_if_ne (tgt := 10) hx hb dX8_copies_4 (by decide) (fun c_4_0 => ?_) (fun c_4_0 => ?_)
  · have t_4_0 := c_4_0
    try simp only [kb_eq0, kb_ne0, lg_cmp_lt, lg_cmp_le, lg_cmp_gt, lg_cmp_ge, lg_cmp_eq] at t_4_0
    try simp only [Int32.lt_iff_toInt_lt, Int32.le_iff_toInt_le, ← Int32.toInt_inj, Int64.lt_iff_toInt_lt, Int64.le_iff_toInt_le, ← Int64.toInt_inj, Int32.toInt_toInt64, Int32.reduceToInt, Int64.reduceToInt] at t_4_0
    refine lv_aload_n hx hb dX8_copies_10 rfl (lv_at hl 0 rfl) ?_
    refine va_get (D := D) (ci := 8) (v := .int 10) (C := RX8) (T := TX8) (N := 31) hx hb hts iX8_copies_X8 hown hK hP 0 rfl rfl 12 (by decide) (hts (.fieldLink RX8 43 "TapeCalculatorModel" "chosen" "I") (List.mem_of_getElem? (i := 1) rfl)) (fun _ h9 => h9) rfl dX8_copies_11 ?_
    refine lv_bipush (v := 12) hx hb dX8_copies_14 (by decide) ?_
    refine lv_icmp_le (tgt := 73) hx hb dX8_copies_16 (by decide) (fun c_16_1 => ?_) (fun c_16_1 => ?_)
    · have t_16_1 := c_16_1
      try simp only [kb_eq0, kb_ne0, lg_cmp_lt, lg_cmp_le, lg_cmp_gt, lg_cmp_ge, lg_cmp_eq] at t_16_1
      try simp only [Int32.lt_iff_toInt_lt, Int32.le_iff_toInt_le, ← Int32.toInt_inj, Int64.lt_iff_toInt_lt, Int64.le_iff_toInt_le, ← Int64.toInt_inj, Int32.toInt_toInt64, Int32.reduceToInt, Int64.reduceToInt] at t_16_1
      refine lv_aload_n hx hb dX8_copies_73 rfl (lv_at hl 0 rfl) ?_
      refine va_get (D := D) (ci := 8) (v := .int 10) (C := RX8) (T := TX8) (N := 31) hx hb hts iX8_copies_X8 hown hK hP 0 rfl rfl 12 (by decide) (hts (.fieldLink RX8 43 "TapeCalculatorModel" "chosen" "I") (List.mem_of_getElem? (i := 1) rfl)) (fun _ h9 => h9) rfl dX8_copies_74 ?_
      refine lv_bipush (v := 8) hx hb dX8_copies_77 (by decide) ?_
      refine lv_icmp_le (tgt := 109) hx hb dX8_copies_79 (by decide) (fun c_79_2 => ?_) (fun c_79_2 => ?_)
      · exact absurd c_79_2 (by decide)
      · have t_79_2 := c_79_2
        try simp only [kb_eq0, kb_ne0, lg_cmp_lt, lg_cmp_le, lg_cmp_gt, lg_cmp_ge, lg_cmp_eq] at t_79_2
        try simp only [Int32.lt_iff_toInt_lt, Int32.le_iff_toInt_le, ← Int32.toInt_inj, Int64.lt_iff_toInt_lt, Int64.le_iff_toInt_le, ← Int64.toInt_inj, Int32.toInt_toInt64, Int32.reduceToInt, Int64.reduceToInt] at t_79_2
        refine lv_aload_n hx hb dX8_copies_82 rfl (lv_at hl 0 rfl) ?_
        refine lv_aload_n hx hb dX8_copies_83 rfl (lv_at hl 0 rfl) ?_
        refine va_get (D := D) (ci := 8) (v := .int 10) (C := RX8) (T := TX8) (N := 31) hx hb hts iX8_copies_X8 hown hK hP 0 rfl rfl 12 (by decide) (hts (.fieldLink RX8 43 "TapeCalculatorModel" "chosen" "I") (List.mem_of_getElem? (i := 1) rfl)) (fun _ h9 => h9) rfl dX8_copies_84 ?_
        refine lv_bipush (v := 9) hx hb dX8_copies_87 (by decide) ?_
        refine lv_isub hx hb dX8_copies_89 ?_
        refine lv_topi (fun x_4 ex_4 => ?_)
        obtain rfl : x_4 = 1 := ex_4.trans (by decide)
        refine lv_aload_n hx hb dX8_copies_90 rfl (lv_at hl 0 rfl) ?_
        refine kCallL (wr := [(mI, .inl (cL, 1200, .inr (.inl fI))), (mJ, .inl (cI, 4, .inl (k4i j0 j1 j2 j3))), (mS, .inl (cI, 4, .inl (k4i s0 s1 s2 s3))), (mD, .inl (cL, 256, .inr (.inl fD)))]) (va_runV (As := []) (rest := [.int 1, .ref m0]) ⟨hx, hb, hml, hown, hts⟩ (q_operandBits l D cI cL cB cZ cT _ m0 mH mI mJ mS mD mX mA mB mW mL aM aC mM mQ oV pL lI sW dP sT aT 10 iW iH aE mN sZ tS tA tW lS fH (by omega)) (cwV 0 hts gX8_copies_X8_operandBits rfl rfl rfl (by decide +kernel) ⟨Nat.le_of_ble_eq_true rfl, Nat.le_of_ble_eq_true rfl⟩) (kPreV hG hP hD [0, 1] rfl (by decide) 0 8 rfl rfl rfl) rfl rfl hl.1 rfl (lv_room (Nat.le_of_ble_eq_true rfl)) dX8_copies_91 ⟨Nat.le_of_ble_eq_true rfl, Nat.le_of_ble_eq_true rfl⟩) hA hP hD hS [0, 1] [2, 3, 4, 5] rfl rfl (by decide) (by decide) (fun r_5 u_r_5 H locs wr_5 hP hD hS => ?_)
        have hP : va_P D vwCl [(mI, .inl (cL, 1200, .inr (.inl fI))), (mJ, .inl (cI, 4, .inl (k4i j0 j1 j2 j3))), (mS, .inl (cI, 4, .inl (k4i s0 s1 s2 s3))), (mD, .inl (cL, 256, .inr (.inl fD))), (m0, .inr (8, [.ref mH, .int aM, .long aC, .int mM, .long mQ, .int oV, .int pL, .int lI, .int sW, .int dP, .int sT, .long aT, .int 10, .int iW, .ref mI, .ref mJ, .ref mS, .ref mD, .int iH, .int aE, .int mN, .long sZ, .ref mX, .int tS, .int tA, .int tW, .ref mA, .ref mB, .ref mW, .ref mL, .int lS])), (mH, .inl (cI, 512, .inl fH))] H := hP
        have hD : va_D A [(mI, .inl (cL, 1200, .inr (.inl fI))), (mJ, .inl (cI, 4, .inl (k4i j0 j1 j2 j3))), (mS, .inl (cI, 4, .inl (k4i s0 s1 s2 s3))), (mD, .inl (cL, 256, .inr (.inl fD))), (m0, .inr (8, [.ref mH, .int aM, .long aC, .int mM, .long mQ, .int oV, .int pL, .int lI, .int sW, .int dP, .int sT, .long aT, .int 10, .int iW, .ref mI, .ref mJ, .ref mS, .ref mD, .int iH, .int aE, .int mN, .long sZ, .ref mX, .int tS, .int tA, .int tW, .ref mA, .ref mB, .ref mW, .ref mL, .int lS])), (mH, .inl (cI, 512, .inl fH))] := hD
        try dsimp only at wr_5
        try simp only [Int32.reduceToInt, Int64.reduceToInt] at wr_5
        refine kCallI (wr := [(mD, .inl (cL, 256, .inr (.inl fD))), (mH, .inl (cI, 512, .inl fH))]) (va_runV (As := [.int 1, .long r_5]) (rest := []) ⟨hx, hb, hml, hown, hts⟩ (q_puts l D cI cL cB cZ cT _ m0 mH mI mJ mS mD mX mA mB mW mL aM aC mM mQ oV pL lI sW dP sT aT 10 iW iH aE mN sZ tS tA tW lS fI j0 j1 j2 j3 s0 s1 s2 s3 1 r_5 (by first | with_reducible assumption | ((try simp only [jT_, jP_, jD_, jC_, jB_, jW_, Int32.reduceToInt, Int64.reduceToInt, true_or, or_true, true_and, and_true]) <;> omega)) (by first | with_reducible assumption | ((try simp only [jT_, jP_, jD_, jC_, jB_, jW_, Int32.reduceToInt, Int64.reduceToInt, true_or, or_true, true_and, and_true]) <;> omega)) (by first | with_reducible assumption | ((try simp only [jT_, jP_, jD_, jC_, jB_, jW_, Int32.reduceToInt, Int64.reduceToInt, true_or, or_true, true_and, and_true]) <;> omega)) (by first | with_reducible assumption | ((try simp only [jT_, jP_, jD_, jC_, jB_, jW_, Int32.reduceToInt, Int64.reduceToInt, true_or, or_true, true_and, and_true]) <;> omega)) (by decide)) (cwV 2 hts gX8_copies_X8_puts rfl rfl rfl (by decide +kernel) ⟨Nat.le_of_ble_eq_true rfl, Nat.le_of_ble_eq_true rfl⟩) (kPreV hG hP hD [4, 0, 1, 2] rfl (by decide) 0 8 rfl rfl rfl) rfl rfl hl.1 rfl (lv_room (Nat.le_of_ble_eq_true rfl)) dX8_copies_94 ⟨Nat.le_of_ble_eq_true rfl, Nat.le_of_ble_eq_true rfl⟩) hA hP hD hS [4, 0, 1, 2] [3, 5] rfl rfl (by decide) (by decide) (fun r_6 u_r_6 H locs wr_6 hP hD hS => ?_)
        have hP : va_P D vwCl [(mD, .inl (cL, 256, .inr (.inl fD))), (mH, .inl (cI, 512, .inl fH)), (m0, .inr (8, [.ref mH, .int aM, .long aC, .int mM, .long mQ, .int oV, .int pL, .int lI, .int sW, .int dP, .int sT, .long aT, .int 10, .int iW, .ref mI, .ref mJ, .ref mS, .ref mD, .int iH, .int aE, .int mN, .long sZ, .ref mX, .int tS, .int tA, .int tW, .ref mA, .ref mB, .ref mW, .ref mL, .int lS])), (mI, .inl (cL, 1200, .inr (.inl u_r_6.1))), (mJ, .inl (cI, 4, .inl (k4i u_r_6.2.1 u_r_6.2.2.1 u_r_6.2.2.2.1 u_r_6.2.2.2.2.1))), (mS, .inl (cI, 4, .inl (k4i u_r_6.2.2.2.2.2.1 u_r_6.2.2.2.2.2.2.1 u_r_6.2.2.2.2.2.2.2.1 u_r_6.2.2.2.2.2.2.2.2)))] H := hP
        have hD : va_D A [(mD, .inl (cL, 256, .inr (.inl fD))), (mH, .inl (cI, 512, .inl fH)), (m0, .inr (8, [.ref mH, .int aM, .long aC, .int mM, .long mQ, .int oV, .int pL, .int lI, .int sW, .int dP, .int sT, .long aT, .int 10, .int iW, .ref mI, .ref mJ, .ref mS, .ref mD, .int iH, .int aE, .int mN, .long sZ, .ref mX, .int tS, .int tA, .int tW, .ref mA, .ref mB, .ref mW, .ref mL, .int lS])), (mI, .inl (cL, 1200, .inr (.inl u_r_6.1))), (mJ, .inl (cI, 4, .inl (k4i u_r_6.2.1 u_r_6.2.2.1 u_r_6.2.2.2.1 u_r_6.2.2.2.2.1))), (mS, .inl (cI, 4, .inl (k4i u_r_6.2.2.2.2.2.1 u_r_6.2.2.2.2.2.2.1 u_r_6.2.2.2.2.2.2.2.1 u_r_6.2.2.2.2.2.2.2.2)))] := hD
        try dsimp only at wr_6
        try simp only [Int32.reduceToInt, Int64.reduceToInt] at wr_6
        obtain ⟨wr_6_0, wr_6_1, wr_6_2, wr_6_3, wr_6_4⟩ := wr_6
        refine lv_if_ne (tgt := 102) hx hb dX8_copies_97 (by decide) (fun c_97_6 => ?_) (fun c_97_6 => ?_)
        · have t_97_6 := c_97_6
          try simp only [kb_eq0, kb_ne0, lg_cmp_lt, lg_cmp_le, lg_cmp_gt, lg_cmp_ge, lg_cmp_eq] at t_97_6
          try simp only [Int32.lt_iff_toInt_lt, Int32.le_iff_toInt_le, ← Int32.toInt_inj, Int64.lt_iff_toInt_lt, Int64.le_iff_toInt_le, ← Int64.toInt_inj, Int32.toInt_toInt64, Int32.reduceToInt, Int64.reduceToInt] at t_97_6
          refine lv_aload_n hx hb dX8_copies_102 rfl (lv_at hl 0 rfl) ?_
          refine lv_iconst (v := 1) hx hb dX8_copies_103 (by decide) ?_
          refine va_put (D := D) (ci := 8) (v := .int 1) (ty := .boolean) (C := RX8) (T := TX8) (N := 31) hx hb hts iX8_copies_X8 tyX8 tyX8_ok nmX8 hown hK hP hD hS 2 rfl rfl 13 (by decide) (hts (.fieldLink RX8 115 "TapeCalculatorModel" "isWritten" "Z") (List.mem_of_getElem? (i := 4) rfl)) (fun _ h9 => h9) rfl (by decide +kernel) rfl rfl (Nat.le_of_ble_eq_true rfl) dX8_copies_104 (fun H locs hP hD hS => ?_)
          have hP : va_P D vwCl [(mD, .inl (cL, 256, .inr (.inl fD))), (mH, .inl (cI, 512, .inl fH)), (m0, .inr (8, [.ref mH, .int aM, .long aC, .int mM, .long mQ, .int oV, .int pL, .int lI, .int sW, .int dP, .int sT, .long aT, .int 10, .int 1, .ref mI, .ref mJ, .ref mS, .ref mD, .int iH, .int aE, .int mN, .long sZ, .ref mX, .int tS, .int tA, .int tW, .ref mA, .ref mB, .ref mW, .ref mL, .int lS])), (mI, .inl (cL, 1200, .inr (.inl u_r_6.1))), (mJ, .inl (cI, 4, .inl (k4i u_r_6.2.1 u_r_6.2.2.1 u_r_6.2.2.2.1 u_r_6.2.2.2.2.1))), (mS, .inl (cI, 4, .inl (k4i u_r_6.2.2.2.2.2.1 u_r_6.2.2.2.2.2.2.1 u_r_6.2.2.2.2.2.2.2.1 u_r_6.2.2.2.2.2.2.2.2)))] H := hP
          have hD : va_D A [(mD, .inl (cL, 256, .inr (.inl fD))), (mH, .inl (cI, 512, .inl fH)), (m0, .inr (8, [.ref mH, .int aM, .long aC, .int mM, .long mQ, .int oV, .int pL, .int lI, .int sW, .int dP, .int sT, .long aT, .int 10, .int 1, .ref mI, .ref mJ, .ref mS, .ref mD, .int iH, .int aE, .int mN, .long sZ, .ref mX, .int tS, .int tA, .int tW, .ref mA, .ref mB, .ref mW, .ref mL, .int lS])), (mI, .inl (cL, 1200, .inr (.inl u_r_6.1))), (mJ, .inl (cI, 4, .inl (k4i u_r_6.2.1 u_r_6.2.2.1 u_r_6.2.2.2.1 u_r_6.2.2.2.2.1))), (mS, .inl (cI, 4, .inl (k4i u_r_6.2.2.2.2.2.1 u_r_6.2.2.2.2.2.2.1 u_r_6.2.2.2.2.2.2.2.1 u_r_6.2.2.2.2.2.2.2.2)))] := hD
          refine lv_iconst (v := 0) hx hb dX8_copies_107 (by decide) ?_
          refine kIret (u := (pL, dP, 10, 1, fH, fD, u_r_6.1, u_r_6.2.1, u_r_6.2.2.1, u_r_6.2.2.2.1, u_r_6.2.2.2.2.1, u_r_6.2.2.2.2.2.1, u_r_6.2.2.2.2.2.2.1, u_r_6.2.2.2.2.2.2.2.1, u_r_6.2.2.2.2.2.2.2.2)) hx hb hr rfl hlocks hS dX8_copies_108 ?_ (hP.sub [2, 1, 3, 4, 5, 0] rfl) (hD.sub [2, 1, 3, 4, 5, 0] (by decide) rfl)
          try dsimp only
          repeat' (with_reducible apply And.intro)
          all_goals first | with_reducible assumption | ((try simp only [jT_, jP_, jD_, jC_, jB_, jW_, Int32.reduceToInt, Int64.reduceToInt, true_or, or_true, true_and, and_true]) <;> omega)
        · have t_97_6 := c_97_6
          try simp only [kb_eq0, kb_ne0, lg_cmp_lt, lg_cmp_le, lg_cmp_gt, lg_cmp_ge, lg_cmp_eq] at t_97_6
          try simp only [Int32.lt_iff_toInt_lt, Int32.le_iff_toInt_le, ← Int32.toInt_inj, Int64.lt_iff_toInt_lt, Int64.le_iff_toInt_le, ← Int64.toInt_inj, Int32.toInt_toInt64, Int32.reduceToInt, Int64.reduceToInt] at t_97_6
          refine lv_iconst (v := 5) hx hb dX8_copies_100 (by decide) ?_
          refine kIret (u := (pL, dP, 10, iW, fH, fD, u_r_6.1, u_r_6.2.1, u_r_6.2.2.1, u_r_6.2.2.2.1, u_r_6.2.2.2.2.1, u_r_6.2.2.2.2.2.1, u_r_6.2.2.2.2.2.2.1, u_r_6.2.2.2.2.2.2.2.1, u_r_6.2.2.2.2.2.2.2.2)) hx hb hr rfl hlocks hS dX8_copies_101 ?_ (hP.sub [2, 1, 3, 4, 5, 0] rfl) (hD.sub [2, 1, 3, 4, 5, 0] (by decide) rfl)
          try dsimp only
          repeat' (with_reducible apply And.intro)
          all_goals first | with_reducible assumption | ((try simp only [jT_, jP_, jD_, jC_, jB_, jW_, Int32.reduceToInt, Int64.reduceToInt, true_or, or_true, true_and, and_true]) <;> omega)
    · exact absurd (by decide) c_16_1
  · exact absurd c_4_0 (by decide)
set_option maxRecDepth 100000 in
set_option maxHeartbeats 4000000 in
theorem q_copies_11 (l : Launch) (D : va_G) (cI cL cB cZ cT : ClassId) (sz : Nat) (m0 mH mI mJ mS mD mX mA mB mW mL : Nat) (aM : Int32) (aC : Int64) (mM : Int32) (mQ : Int64) (oV pL lI sW dP sT : Int32) (aT : Int64) (iW iH aE mN : Int32) (sZ : Int64) (tS tA tW lS : Int32) (fH : Nat → Int32) (fI : Nat → Int64) (j0 j1 j2 j3 : Int32) (s0 s1 s2 s3 : Int32) (fD : Nat → Int64) (hpl : jP_ pL) (hdp : jD_ dP) (hch : jC_ 11) (hiw : jW_ iW 11) (ht0 : jT_ s0 j0) (ht1 : jT_ s1 j1) (ht2 : jT_ s2 j2) (ht3 : jT_ s3 j3) (had : 0 ≤ aE.toInt ∧ aE.toInt ≤ 511 ∧ (iH.toInt = 0 ∨ aE.toInt ≤ 510)) : kM (S := (Int32 × Int32 × Int32 × Int32 × (Nat → Int32) × (Nat → Int64) × (Nat → Int64) × Int32 × Int32 × Int32 × Int32 × Int32 × Int32 × Int32 × Int32)) l yX8_copies wsX8_copies ({ frames := 2, cells := 0, slots := 0, locals := 45 }) D (kT cI cL cB cZ cT) [.ref m0] [(m0, .inr (8, [.ref mH, .int aM, .long aC, .int mM, .long mQ, .int oV, .int pL, .int lI, .int sW, .int dP, .int sT, .long aT, .int 11, .int iW, .ref mI, .ref mJ, .ref mS, .ref mD, .int iH, .int aE, .int mN, .long sZ, .ref mX, .int tS, .int tA, .int tW, .ref mA, .ref mB, .ref mW, .ref mL, .int lS])), (mH, .inl (cI, 512, .inl fH)), (mI, .inl (cL, 1200, .inr (.inl fI))), (mJ, .inl (cI, 4, .inl (k4i j0 j1 j2 j3))), (mS, .inl (cI, 4, .inl (k4i s0 s1 s2 s3))), (mD, .inl (cL, 256, .inr (.inl fD)))] sz eI (fun r u => (0 ≤ r.toInt ∧ r.toInt ≤ 6) ∧ jP_ (u.1) ∧ jD_ (u.2.1) ∧ jC_ (u.2.2.1) ∧ jW_ (u.2.2.2.1) (u.2.2.1) ∧ jT_ (u.2.2.2.2.2.2.2.2.2.2.2.1) (u.2.2.2.2.2.2.2.1) ∧ jT_ (u.2.2.2.2.2.2.2.2.2.2.2.2.1) (u.2.2.2.2.2.2.2.2.1) ∧ jT_ (u.2.2.2.2.2.2.2.2.2.2.2.2.2.1) (u.2.2.2.2.2.2.2.2.2.1) ∧ jT_ (u.2.2.2.2.2.2.2.2.2.2.2.2.2.2) (u.2.2.2.2.2.2.2.2.2.2.1)) (fun u => [(m0, .inr (8, [.ref mH, .int aM, .long aC, .int mM, .long mQ, .int oV, .int u.1, .int lI, .int sW, .int u.2.1, .int sT, .long aT, .int u.2.2.1, .int u.2.2.2.1, .ref mI, .ref mJ, .ref mS, .ref mD, .int iH, .int aE, .int mN, .long sZ, .ref mX, .int tS, .int tA, .int tW, .ref mA, .ref mB, .ref mW, .ref mL, .int lS])), (mH, .inl (cI, 512, .inl u.2.2.2.2.1)), (mI, .inl (cL, 1200, .inr (.inl u.2.2.2.2.2.2.1))), (mJ, .inl (cI, 4, .inl (k4i u.2.2.2.2.2.2.2.1 u.2.2.2.2.2.2.2.2.1 u.2.2.2.2.2.2.2.2.2.1 u.2.2.2.2.2.2.2.2.2.2.1))), (mS, .inl (cI, 4, .inl (k4i u.2.2.2.2.2.2.2.2.2.2.2.1 u.2.2.2.2.2.2.2.2.2.2.2.2.1 u.2.2.2.2.2.2.2.2.2.2.2.2.2.1 u.2.2.2.2.2.2.2.2.2.2.2.2.2.2))), (mD, .inl (cL, 256, .inr (.inl u.2.2.2.2.2.1)))]) 0 0 := by
  refine kStart (cc := cX8_copies) (maxL := 6) (ret := (some .int)) (own := RX8) (by decide) rfl rfl (Nat.le_of_ble_eq_true rfl) ?_
  intro p e s m args below meth c A ls hx hb hr hml hown hts hlocks hnm hsz hA hG hP hD hS hl
  have hK := hG.1
  have hl : lv_has ls 6 [(0, .ref m0)] := hl
  refine lv_aload_n hx hb dX8_copies_0 rfl (lv_at hl 0 rfl) ?_
  refine va_get (D := D) (ci := 8) (v := .int 11) (C := RX8) (T := TX8) (N := 31) hx hb hts iX8_copies_X8 hown hK hP 0 rfl rfl 12 (by decide) (hts (.fieldLink RX8 43 "TapeCalculatorModel" "chosen" "I") (List.mem_of_getElem? (i := 1) rfl)) (fun _ h9 => h9) rfl dX8_copies_1 ?_
  refine lv_if_ne (tgt := 10) hx hb dX8_copies_4 (by decide) (fun c_4_0 => ?_) (fun c_4_0 => ?_)
  · have t_4_0 := c_4_0
    try simp only [kb_eq0, kb_ne0, lg_cmp_lt, lg_cmp_le, lg_cmp_gt, lg_cmp_ge, lg_cmp_eq] at t_4_0
    try simp only [Int32.lt_iff_toInt_lt, Int32.le_iff_toInt_le, ← Int32.toInt_inj, Int64.lt_iff_toInt_lt, Int64.le_iff_toInt_le, ← Int64.toInt_inj, Int32.toInt_toInt64, Int32.reduceToInt, Int64.reduceToInt] at t_4_0
    refine lv_aload_n hx hb dX8_copies_10 rfl (lv_at hl 0 rfl) ?_
    refine va_get (D := D) (ci := 8) (v := .int 11) (C := RX8) (T := TX8) (N := 31) hx hb hts iX8_copies_X8 hown hK hP 0 rfl rfl 12 (by decide) (hts (.fieldLink RX8 43 "TapeCalculatorModel" "chosen" "I") (List.mem_of_getElem? (i := 1) rfl)) (fun _ h9 => h9) rfl dX8_copies_11 ?_
    refine lv_bipush (v := 12) hx hb dX8_copies_14 (by decide) ?_
    refine lv_icmp_le (tgt := 73) hx hb dX8_copies_16 (by decide) (fun c_16_1 => ?_) (fun c_16_1 => ?_)
    · have t_16_1 := c_16_1
      try simp only [kb_eq0, kb_ne0, lg_cmp_lt, lg_cmp_le, lg_cmp_gt, lg_cmp_ge, lg_cmp_eq] at t_16_1
      try simp only [Int32.lt_iff_toInt_lt, Int32.le_iff_toInt_le, ← Int32.toInt_inj, Int64.lt_iff_toInt_lt, Int64.le_iff_toInt_le, ← Int64.toInt_inj, Int32.toInt_toInt64, Int32.reduceToInt, Int64.reduceToInt] at t_16_1
      refine lv_aload_n hx hb dX8_copies_73 rfl (lv_at hl 0 rfl) ?_
      refine va_get (D := D) (ci := 8) (v := .int 11) (C := RX8) (T := TX8) (N := 31) hx hb hts iX8_copies_X8 hown hK hP 0 rfl rfl 12 (by decide) (hts (.fieldLink RX8 43 "TapeCalculatorModel" "chosen" "I") (List.mem_of_getElem? (i := 1) rfl)) (fun _ h9 => h9) rfl dX8_copies_74 ?_
      refine lv_bipush (v := 8) hx hb dX8_copies_77 (by decide) ?_
      refine lv_icmp_le (tgt := 109) hx hb dX8_copies_79 (by decide) (fun c_79_2 => ?_) (fun c_79_2 => ?_)
      · exact absurd c_79_2 (by decide)
      · have t_79_2 := c_79_2
        try simp only [kb_eq0, kb_ne0, lg_cmp_lt, lg_cmp_le, lg_cmp_gt, lg_cmp_ge, lg_cmp_eq] at t_79_2
        try simp only [Int32.lt_iff_toInt_lt, Int32.le_iff_toInt_le, ← Int32.toInt_inj, Int64.lt_iff_toInt_lt, Int64.le_iff_toInt_le, ← Int64.toInt_inj, Int32.toInt_toInt64, Int32.reduceToInt, Int64.reduceToInt] at t_79_2
        refine lv_aload_n hx hb dX8_copies_82 rfl (lv_at hl 0 rfl) ?_
        refine lv_aload_n hx hb dX8_copies_83 rfl (lv_at hl 0 rfl) ?_
        refine va_get (D := D) (ci := 8) (v := .int 11) (C := RX8) (T := TX8) (N := 31) hx hb hts iX8_copies_X8 hown hK hP 0 rfl rfl 12 (by decide) (hts (.fieldLink RX8 43 "TapeCalculatorModel" "chosen" "I") (List.mem_of_getElem? (i := 1) rfl)) (fun _ h9 => h9) rfl dX8_copies_84 ?_
        refine lv_bipush (v := 9) hx hb dX8_copies_87 (by decide) ?_
        refine lv_isub hx hb dX8_copies_89 ?_
        refine lv_topi (fun x_4 ex_4 => ?_)
        obtain rfl : x_4 = 2 := ex_4.trans (by decide)
        refine lv_aload_n hx hb dX8_copies_90 rfl (lv_at hl 0 rfl) ?_
        refine kCallL (wr := [(mI, .inl (cL, 1200, .inr (.inl fI))), (mJ, .inl (cI, 4, .inl (k4i j0 j1 j2 j3))), (mS, .inl (cI, 4, .inl (k4i s0 s1 s2 s3))), (mD, .inl (cL, 256, .inr (.inl fD)))]) (va_runV (As := []) (rest := [.int 2, .ref m0]) ⟨hx, hb, hml, hown, hts⟩ (q_operandBits l D cI cL cB cZ cT _ m0 mH mI mJ mS mD mX mA mB mW mL aM aC mM mQ oV pL lI sW dP sT aT 11 iW iH aE mN sZ tS tA tW lS fH (by omega)) (cwV 0 hts gX8_copies_X8_operandBits rfl rfl rfl (by decide +kernel) ⟨Nat.le_of_ble_eq_true rfl, Nat.le_of_ble_eq_true rfl⟩) (kPreV hG hP hD [0, 1] rfl (by decide) 0 8 rfl rfl rfl) rfl rfl hl.1 rfl (lv_room (Nat.le_of_ble_eq_true rfl)) dX8_copies_91 ⟨Nat.le_of_ble_eq_true rfl, Nat.le_of_ble_eq_true rfl⟩) hA hP hD hS [0, 1] [2, 3, 4, 5] rfl rfl (by decide) (by decide) (fun r_5 u_r_5 H locs wr_5 hP hD hS => ?_)
        have hP : va_P D vwCl [(mI, .inl (cL, 1200, .inr (.inl fI))), (mJ, .inl (cI, 4, .inl (k4i j0 j1 j2 j3))), (mS, .inl (cI, 4, .inl (k4i s0 s1 s2 s3))), (mD, .inl (cL, 256, .inr (.inl fD))), (m0, .inr (8, [.ref mH, .int aM, .long aC, .int mM, .long mQ, .int oV, .int pL, .int lI, .int sW, .int dP, .int sT, .long aT, .int 11, .int iW, .ref mI, .ref mJ, .ref mS, .ref mD, .int iH, .int aE, .int mN, .long sZ, .ref mX, .int tS, .int tA, .int tW, .ref mA, .ref mB, .ref mW, .ref mL, .int lS])), (mH, .inl (cI, 512, .inl fH))] H := hP
        have hD : va_D A [(mI, .inl (cL, 1200, .inr (.inl fI))), (mJ, .inl (cI, 4, .inl (k4i j0 j1 j2 j3))), (mS, .inl (cI, 4, .inl (k4i s0 s1 s2 s3))), (mD, .inl (cL, 256, .inr (.inl fD))), (m0, .inr (8, [.ref mH, .int aM, .long aC, .int mM, .long mQ, .int oV, .int pL, .int lI, .int sW, .int dP, .int sT, .long aT, .int 11, .int iW, .ref mI, .ref mJ, .ref mS, .ref mD, .int iH, .int aE, .int mN, .long sZ, .ref mX, .int tS, .int tA, .int tW, .ref mA, .ref mB, .ref mW, .ref mL, .int lS])), (mH, .inl (cI, 512, .inl fH))] := hD
        try dsimp only at wr_5
        try simp only [Int32.reduceToInt, Int64.reduceToInt] at wr_5
        refine kCallI (wr := [(mD, .inl (cL, 256, .inr (.inl fD))), (mH, .inl (cI, 512, .inl fH))]) (va_runV (As := [.int 2, .long r_5]) (rest := []) ⟨hx, hb, hml, hown, hts⟩ (q_puts l D cI cL cB cZ cT _ m0 mH mI mJ mS mD mX mA mB mW mL aM aC mM mQ oV pL lI sW dP sT aT 11 iW iH aE mN sZ tS tA tW lS fI j0 j1 j2 j3 s0 s1 s2 s3 2 r_5 (by first | with_reducible assumption | ((try simp only [jT_, jP_, jD_, jC_, jB_, jW_, Int32.reduceToInt, Int64.reduceToInt, true_or, or_true, true_and, and_true]) <;> omega)) (by first | with_reducible assumption | ((try simp only [jT_, jP_, jD_, jC_, jB_, jW_, Int32.reduceToInt, Int64.reduceToInt, true_or, or_true, true_and, and_true]) <;> omega)) (by first | with_reducible assumption | ((try simp only [jT_, jP_, jD_, jC_, jB_, jW_, Int32.reduceToInt, Int64.reduceToInt, true_or, or_true, true_and, and_true]) <;> omega)) (by first | with_reducible assumption | ((try simp only [jT_, jP_, jD_, jC_, jB_, jW_, Int32.reduceToInt, Int64.reduceToInt, true_or, or_true, true_and, and_true]) <;> omega)) (by decide)) (cwV 2 hts gX8_copies_X8_puts rfl rfl rfl (by decide +kernel) ⟨Nat.le_of_ble_eq_true rfl, Nat.le_of_ble_eq_true rfl⟩) (kPreV hG hP hD [4, 0, 1, 2] rfl (by decide) 0 8 rfl rfl rfl) rfl rfl hl.1 rfl (lv_room (Nat.le_of_ble_eq_true rfl)) dX8_copies_94 ⟨Nat.le_of_ble_eq_true rfl, Nat.le_of_ble_eq_true rfl⟩) hA hP hD hS [4, 0, 1, 2] [3, 5] rfl rfl (by decide) (by decide) (fun r_6 u_r_6 H locs wr_6 hP hD hS => ?_)
        have hP : va_P D vwCl [(mD, .inl (cL, 256, .inr (.inl fD))), (mH, .inl (cI, 512, .inl fH)), (m0, .inr (8, [.ref mH, .int aM, .long aC, .int mM, .long mQ, .int oV, .int pL, .int lI, .int sW, .int dP, .int sT, .long aT, .int 11, .int iW, .ref mI, .ref mJ, .ref mS, .ref mD, .int iH, .int aE, .int mN, .long sZ, .ref mX, .int tS, .int tA, .int tW, .ref mA, .ref mB, .ref mW, .ref mL, .int lS])), (mI, .inl (cL, 1200, .inr (.inl u_r_6.1))), (mJ, .inl (cI, 4, .inl (k4i u_r_6.2.1 u_r_6.2.2.1 u_r_6.2.2.2.1 u_r_6.2.2.2.2.1))), (mS, .inl (cI, 4, .inl (k4i u_r_6.2.2.2.2.2.1 u_r_6.2.2.2.2.2.2.1 u_r_6.2.2.2.2.2.2.2.1 u_r_6.2.2.2.2.2.2.2.2)))] H := hP
        have hD : va_D A [(mD, .inl (cL, 256, .inr (.inl fD))), (mH, .inl (cI, 512, .inl fH)), (m0, .inr (8, [.ref mH, .int aM, .long aC, .int mM, .long mQ, .int oV, .int pL, .int lI, .int sW, .int dP, .int sT, .long aT, .int 11, .int iW, .ref mI, .ref mJ, .ref mS, .ref mD, .int iH, .int aE, .int mN, .long sZ, .ref mX, .int tS, .int tA, .int tW, .ref mA, .ref mB, .ref mW, .ref mL, .int lS])), (mI, .inl (cL, 1200, .inr (.inl u_r_6.1))), (mJ, .inl (cI, 4, .inl (k4i u_r_6.2.1 u_r_6.2.2.1 u_r_6.2.2.2.1 u_r_6.2.2.2.2.1))), (mS, .inl (cI, 4, .inl (k4i u_r_6.2.2.2.2.2.1 u_r_6.2.2.2.2.2.2.1 u_r_6.2.2.2.2.2.2.2.1 u_r_6.2.2.2.2.2.2.2.2)))] := hD
        try dsimp only at wr_6
        try simp only [Int32.reduceToInt, Int64.reduceToInt] at wr_6
        obtain ⟨wr_6_0, wr_6_1, wr_6_2, wr_6_3, wr_6_4⟩ := wr_6
        refine lv_if_ne (tgt := 102) hx hb dX8_copies_97 (by decide) (fun c_97_6 => ?_) (fun c_97_6 => ?_)
        · have t_97_6 := c_97_6
          try simp only [kb_eq0, kb_ne0, lg_cmp_lt, lg_cmp_le, lg_cmp_gt, lg_cmp_ge, lg_cmp_eq] at t_97_6
          try simp only [Int32.lt_iff_toInt_lt, Int32.le_iff_toInt_le, ← Int32.toInt_inj, Int64.lt_iff_toInt_lt, Int64.le_iff_toInt_le, ← Int64.toInt_inj, Int32.toInt_toInt64, Int32.reduceToInt, Int64.reduceToInt] at t_97_6
          refine lv_aload_n hx hb dX8_copies_102 rfl (lv_at hl 0 rfl) ?_
          refine lv_iconst (v := 1) hx hb dX8_copies_103 (by decide) ?_
          refine va_put (D := D) (ci := 8) (v := .int 1) (ty := .boolean) (C := RX8) (T := TX8) (N := 31) hx hb hts iX8_copies_X8 tyX8 tyX8_ok nmX8 hown hK hP hD hS 2 rfl rfl 13 (by decide) (hts (.fieldLink RX8 115 "TapeCalculatorModel" "isWritten" "Z") (List.mem_of_getElem? (i := 4) rfl)) (fun _ h9 => h9) rfl (by decide +kernel) rfl rfl (Nat.le_of_ble_eq_true rfl) dX8_copies_104 (fun H locs hP hD hS => ?_)
          have hP : va_P D vwCl [(mD, .inl (cL, 256, .inr (.inl fD))), (mH, .inl (cI, 512, .inl fH)), (m0, .inr (8, [.ref mH, .int aM, .long aC, .int mM, .long mQ, .int oV, .int pL, .int lI, .int sW, .int dP, .int sT, .long aT, .int 11, .int 1, .ref mI, .ref mJ, .ref mS, .ref mD, .int iH, .int aE, .int mN, .long sZ, .ref mX, .int tS, .int tA, .int tW, .ref mA, .ref mB, .ref mW, .ref mL, .int lS])), (mI, .inl (cL, 1200, .inr (.inl u_r_6.1))), (mJ, .inl (cI, 4, .inl (k4i u_r_6.2.1 u_r_6.2.2.1 u_r_6.2.2.2.1 u_r_6.2.2.2.2.1))), (mS, .inl (cI, 4, .inl (k4i u_r_6.2.2.2.2.2.1 u_r_6.2.2.2.2.2.2.1 u_r_6.2.2.2.2.2.2.2.1 u_r_6.2.2.2.2.2.2.2.2)))] H := hP
          have hD : va_D A [(mD, .inl (cL, 256, .inr (.inl fD))), (mH, .inl (cI, 512, .inl fH)), (m0, .inr (8, [.ref mH, .int aM, .long aC, .int mM, .long mQ, .int oV, .int pL, .int lI, .int sW, .int dP, .int sT, .long aT, .int 11, .int 1, .ref mI, .ref mJ, .ref mS, .ref mD, .int iH, .int aE, .int mN, .long sZ, .ref mX, .int tS, .int tA, .int tW, .ref mA, .ref mB, .ref mW, .ref mL, .int lS])), (mI, .inl (cL, 1200, .inr (.inl u_r_6.1))), (mJ, .inl (cI, 4, .inl (k4i u_r_6.2.1 u_r_6.2.2.1 u_r_6.2.2.2.1 u_r_6.2.2.2.2.1))), (mS, .inl (cI, 4, .inl (k4i u_r_6.2.2.2.2.2.1 u_r_6.2.2.2.2.2.2.1 u_r_6.2.2.2.2.2.2.2.1 u_r_6.2.2.2.2.2.2.2.2)))] := hD
          refine lv_iconst (v := 0) hx hb dX8_copies_107 (by decide) ?_
          refine kIret (u := (pL, dP, 11, 1, fH, fD, u_r_6.1, u_r_6.2.1, u_r_6.2.2.1, u_r_6.2.2.2.1, u_r_6.2.2.2.2.1, u_r_6.2.2.2.2.2.1, u_r_6.2.2.2.2.2.2.1, u_r_6.2.2.2.2.2.2.2.1, u_r_6.2.2.2.2.2.2.2.2)) hx hb hr rfl hlocks hS dX8_copies_108 ?_ (hP.sub [2, 1, 3, 4, 5, 0] rfl) (hD.sub [2, 1, 3, 4, 5, 0] (by decide) rfl)
          try dsimp only
          repeat' (with_reducible apply And.intro)
          all_goals first | with_reducible assumption | ((try simp only [jT_, jP_, jD_, jC_, jB_, jW_, Int32.reduceToInt, Int64.reduceToInt, true_or, or_true, true_and, and_true]) <;> omega)
        · have t_97_6 := c_97_6
          try simp only [kb_eq0, kb_ne0, lg_cmp_lt, lg_cmp_le, lg_cmp_gt, lg_cmp_ge, lg_cmp_eq] at t_97_6
          try simp only [Int32.lt_iff_toInt_lt, Int32.le_iff_toInt_le, ← Int32.toInt_inj, Int64.lt_iff_toInt_lt, Int64.le_iff_toInt_le, ← Int64.toInt_inj, Int32.toInt_toInt64, Int32.reduceToInt, Int64.reduceToInt] at t_97_6
          refine lv_iconst (v := 5) hx hb dX8_copies_100 (by decide) ?_
          refine kIret (u := (pL, dP, 11, iW, fH, fD, u_r_6.1, u_r_6.2.1, u_r_6.2.2.1, u_r_6.2.2.2.1, u_r_6.2.2.2.2.1, u_r_6.2.2.2.2.2.1, u_r_6.2.2.2.2.2.2.1, u_r_6.2.2.2.2.2.2.2.1, u_r_6.2.2.2.2.2.2.2.2)) hx hb hr rfl hlocks hS dX8_copies_101 ?_ (hP.sub [2, 1, 3, 4, 5, 0] rfl) (hD.sub [2, 1, 3, 4, 5, 0] (by decide) rfl)
          try dsimp only
          repeat' (with_reducible apply And.intro)
          all_goals first | with_reducible assumption | ((try simp only [jT_, jP_, jD_, jC_, jB_, jW_, Int32.reduceToInt, Int64.reduceToInt, true_or, or_true, true_and, and_true]) <;> omega)
    · exact absurd (by decide) c_16_1
  · exact absurd c_4_0 (by decide)
set_option maxRecDepth 100000 in
set_option maxHeartbeats 4000000 in
theorem q_copies_12 (l : Launch) (D : va_G) (cI cL cB cZ cT : ClassId) (sz : Nat) (m0 mH mI mJ mS mD mX mA mB mW mL : Nat) (aM : Int32) (aC : Int64) (mM : Int32) (mQ : Int64) (oV pL lI sW dP sT : Int32) (aT : Int64) (iW iH aE mN : Int32) (sZ : Int64) (tS tA tW lS : Int32) (fH : Nat → Int32) (fI : Nat → Int64) (j0 j1 j2 j3 : Int32) (s0 s1 s2 s3 : Int32) (fD : Nat → Int64) (hpl : jP_ pL) (hdp : jD_ dP) (hch : jC_ 12) (hiw : jW_ iW 12) (ht0 : jT_ s0 j0) (ht1 : jT_ s1 j1) (ht2 : jT_ s2 j2) (ht3 : jT_ s3 j3) (had : 0 ≤ aE.toInt ∧ aE.toInt ≤ 511 ∧ (iH.toInt = 0 ∨ aE.toInt ≤ 510)) : kM (S := (Int32 × Int32 × Int32 × Int32 × (Nat → Int32) × (Nat → Int64) × (Nat → Int64) × Int32 × Int32 × Int32 × Int32 × Int32 × Int32 × Int32 × Int32)) l yX8_copies wsX8_copies ({ frames := 2, cells := 0, slots := 0, locals := 45 }) D (kT cI cL cB cZ cT) [.ref m0] [(m0, .inr (8, [.ref mH, .int aM, .long aC, .int mM, .long mQ, .int oV, .int pL, .int lI, .int sW, .int dP, .int sT, .long aT, .int 12, .int iW, .ref mI, .ref mJ, .ref mS, .ref mD, .int iH, .int aE, .int mN, .long sZ, .ref mX, .int tS, .int tA, .int tW, .ref mA, .ref mB, .ref mW, .ref mL, .int lS])), (mH, .inl (cI, 512, .inl fH)), (mI, .inl (cL, 1200, .inr (.inl fI))), (mJ, .inl (cI, 4, .inl (k4i j0 j1 j2 j3))), (mS, .inl (cI, 4, .inl (k4i s0 s1 s2 s3))), (mD, .inl (cL, 256, .inr (.inl fD)))] sz eI (fun r u => (0 ≤ r.toInt ∧ r.toInt ≤ 6) ∧ jP_ (u.1) ∧ jD_ (u.2.1) ∧ jC_ (u.2.2.1) ∧ jW_ (u.2.2.2.1) (u.2.2.1) ∧ jT_ (u.2.2.2.2.2.2.2.2.2.2.2.1) (u.2.2.2.2.2.2.2.1) ∧ jT_ (u.2.2.2.2.2.2.2.2.2.2.2.2.1) (u.2.2.2.2.2.2.2.2.1) ∧ jT_ (u.2.2.2.2.2.2.2.2.2.2.2.2.2.1) (u.2.2.2.2.2.2.2.2.2.1) ∧ jT_ (u.2.2.2.2.2.2.2.2.2.2.2.2.2.2) (u.2.2.2.2.2.2.2.2.2.2.1)) (fun u => [(m0, .inr (8, [.ref mH, .int aM, .long aC, .int mM, .long mQ, .int oV, .int u.1, .int lI, .int sW, .int u.2.1, .int sT, .long aT, .int u.2.2.1, .int u.2.2.2.1, .ref mI, .ref mJ, .ref mS, .ref mD, .int iH, .int aE, .int mN, .long sZ, .ref mX, .int tS, .int tA, .int tW, .ref mA, .ref mB, .ref mW, .ref mL, .int lS])), (mH, .inl (cI, 512, .inl u.2.2.2.2.1)), (mI, .inl (cL, 1200, .inr (.inl u.2.2.2.2.2.2.1))), (mJ, .inl (cI, 4, .inl (k4i u.2.2.2.2.2.2.2.1 u.2.2.2.2.2.2.2.2.1 u.2.2.2.2.2.2.2.2.2.1 u.2.2.2.2.2.2.2.2.2.2.1))), (mS, .inl (cI, 4, .inl (k4i u.2.2.2.2.2.2.2.2.2.2.2.1 u.2.2.2.2.2.2.2.2.2.2.2.2.1 u.2.2.2.2.2.2.2.2.2.2.2.2.2.1 u.2.2.2.2.2.2.2.2.2.2.2.2.2.2))), (mD, .inl (cL, 256, .inr (.inl u.2.2.2.2.2.1)))]) 0 0 := by
  refine kStart (cc := cX8_copies) (maxL := 6) (ret := (some .int)) (own := RX8) (by decide) rfl rfl (Nat.le_of_ble_eq_true rfl) ?_
  intro p e s m args below meth c A ls hx hb hr hml hown hts hlocks hnm hsz hA hG hP hD hS hl
  have hK := hG.1
  have hl : lv_has ls 6 [(0, .ref m0)] := hl
  refine lv_aload_n hx hb dX8_copies_0 rfl (lv_at hl 0 rfl) ?_
  refine va_get (D := D) (ci := 8) (v := .int 12) (C := RX8) (T := TX8) (N := 31) hx hb hts iX8_copies_X8 hown hK hP 0 rfl rfl 12 (by decide) (hts (.fieldLink RX8 43 "TapeCalculatorModel" "chosen" "I") (List.mem_of_getElem? (i := 1) rfl)) (fun _ h9 => h9) rfl dX8_copies_1 ?_
  refine lv_if_ne (tgt := 10) hx hb dX8_copies_4 (by decide) (fun c_4_0 => ?_) (fun c_4_0 => ?_)
  · have t_4_0 := c_4_0
    try simp only [kb_eq0, kb_ne0, lg_cmp_lt, lg_cmp_le, lg_cmp_gt, lg_cmp_ge, lg_cmp_eq] at t_4_0
    try simp only [Int32.lt_iff_toInt_lt, Int32.le_iff_toInt_le, ← Int32.toInt_inj, Int64.lt_iff_toInt_lt, Int64.le_iff_toInt_le, ← Int64.toInt_inj, Int32.toInt_toInt64, Int32.reduceToInt, Int64.reduceToInt] at t_4_0
    refine lv_aload_n hx hb dX8_copies_10 rfl (lv_at hl 0 rfl) ?_
    refine va_get (D := D) (ci := 8) (v := .int 12) (C := RX8) (T := TX8) (N := 31) hx hb hts iX8_copies_X8 hown hK hP 0 rfl rfl 12 (by decide) (hts (.fieldLink RX8 43 "TapeCalculatorModel" "chosen" "I") (List.mem_of_getElem? (i := 1) rfl)) (fun _ h9 => h9) rfl dX8_copies_11 ?_
    refine lv_bipush (v := 12) hx hb dX8_copies_14 (by decide) ?_
    refine lv_icmp_le (tgt := 73) hx hb dX8_copies_16 (by decide) (fun c_16_1 => ?_) (fun c_16_1 => ?_)
    · have t_16_1 := c_16_1
      try simp only [kb_eq0, kb_ne0, lg_cmp_lt, lg_cmp_le, lg_cmp_gt, lg_cmp_ge, lg_cmp_eq] at t_16_1
      try simp only [Int32.lt_iff_toInt_lt, Int32.le_iff_toInt_le, ← Int32.toInt_inj, Int64.lt_iff_toInt_lt, Int64.le_iff_toInt_le, ← Int64.toInt_inj, Int32.toInt_toInt64, Int32.reduceToInt, Int64.reduceToInt] at t_16_1
      refine lv_aload_n hx hb dX8_copies_73 rfl (lv_at hl 0 rfl) ?_
      refine va_get (D := D) (ci := 8) (v := .int 12) (C := RX8) (T := TX8) (N := 31) hx hb hts iX8_copies_X8 hown hK hP 0 rfl rfl 12 (by decide) (hts (.fieldLink RX8 43 "TapeCalculatorModel" "chosen" "I") (List.mem_of_getElem? (i := 1) rfl)) (fun _ h9 => h9) rfl dX8_copies_74 ?_
      refine lv_bipush (v := 8) hx hb dX8_copies_77 (by decide) ?_
      refine lv_icmp_le (tgt := 109) hx hb dX8_copies_79 (by decide) (fun c_79_2 => ?_) (fun c_79_2 => ?_)
      · exact absurd c_79_2 (by decide)
      · have t_79_2 := c_79_2
        try simp only [kb_eq0, kb_ne0, lg_cmp_lt, lg_cmp_le, lg_cmp_gt, lg_cmp_ge, lg_cmp_eq] at t_79_2
        try simp only [Int32.lt_iff_toInt_lt, Int32.le_iff_toInt_le, ← Int32.toInt_inj, Int64.lt_iff_toInt_lt, Int64.le_iff_toInt_le, ← Int64.toInt_inj, Int32.toInt_toInt64, Int32.reduceToInt, Int64.reduceToInt] at t_79_2
        refine lv_aload_n hx hb dX8_copies_82 rfl (lv_at hl 0 rfl) ?_
        refine lv_aload_n hx hb dX8_copies_83 rfl (lv_at hl 0 rfl) ?_
        refine va_get (D := D) (ci := 8) (v := .int 12) (C := RX8) (T := TX8) (N := 31) hx hb hts iX8_copies_X8 hown hK hP 0 rfl rfl 12 (by decide) (hts (.fieldLink RX8 43 "TapeCalculatorModel" "chosen" "I") (List.mem_of_getElem? (i := 1) rfl)) (fun _ h9 => h9) rfl dX8_copies_84 ?_
        refine lv_bipush (v := 9) hx hb dX8_copies_87 (by decide) ?_
        refine lv_isub hx hb dX8_copies_89 ?_
        refine lv_topi (fun x_4 ex_4 => ?_)
        obtain rfl : x_4 = 3 := ex_4.trans (by decide)
        refine lv_aload_n hx hb dX8_copies_90 rfl (lv_at hl 0 rfl) ?_
        refine kCallL (wr := [(mI, .inl (cL, 1200, .inr (.inl fI))), (mJ, .inl (cI, 4, .inl (k4i j0 j1 j2 j3))), (mS, .inl (cI, 4, .inl (k4i s0 s1 s2 s3))), (mD, .inl (cL, 256, .inr (.inl fD)))]) (va_runV (As := []) (rest := [.int 3, .ref m0]) ⟨hx, hb, hml, hown, hts⟩ (q_operandBits l D cI cL cB cZ cT _ m0 mH mI mJ mS mD mX mA mB mW mL aM aC mM mQ oV pL lI sW dP sT aT 12 iW iH aE mN sZ tS tA tW lS fH (by omega)) (cwV 0 hts gX8_copies_X8_operandBits rfl rfl rfl (by decide +kernel) ⟨Nat.le_of_ble_eq_true rfl, Nat.le_of_ble_eq_true rfl⟩) (kPreV hG hP hD [0, 1] rfl (by decide) 0 8 rfl rfl rfl) rfl rfl hl.1 rfl (lv_room (Nat.le_of_ble_eq_true rfl)) dX8_copies_91 ⟨Nat.le_of_ble_eq_true rfl, Nat.le_of_ble_eq_true rfl⟩) hA hP hD hS [0, 1] [2, 3, 4, 5] rfl rfl (by decide) (by decide) (fun r_5 u_r_5 H locs wr_5 hP hD hS => ?_)
        have hP : va_P D vwCl [(mI, .inl (cL, 1200, .inr (.inl fI))), (mJ, .inl (cI, 4, .inl (k4i j0 j1 j2 j3))), (mS, .inl (cI, 4, .inl (k4i s0 s1 s2 s3))), (mD, .inl (cL, 256, .inr (.inl fD))), (m0, .inr (8, [.ref mH, .int aM, .long aC, .int mM, .long mQ, .int oV, .int pL, .int lI, .int sW, .int dP, .int sT, .long aT, .int 12, .int iW, .ref mI, .ref mJ, .ref mS, .ref mD, .int iH, .int aE, .int mN, .long sZ, .ref mX, .int tS, .int tA, .int tW, .ref mA, .ref mB, .ref mW, .ref mL, .int lS])), (mH, .inl (cI, 512, .inl fH))] H := hP
        have hD : va_D A [(mI, .inl (cL, 1200, .inr (.inl fI))), (mJ, .inl (cI, 4, .inl (k4i j0 j1 j2 j3))), (mS, .inl (cI, 4, .inl (k4i s0 s1 s2 s3))), (mD, .inl (cL, 256, .inr (.inl fD))), (m0, .inr (8, [.ref mH, .int aM, .long aC, .int mM, .long mQ, .int oV, .int pL, .int lI, .int sW, .int dP, .int sT, .long aT, .int 12, .int iW, .ref mI, .ref mJ, .ref mS, .ref mD, .int iH, .int aE, .int mN, .long sZ, .ref mX, .int tS, .int tA, .int tW, .ref mA, .ref mB, .ref mW, .ref mL, .int lS])), (mH, .inl (cI, 512, .inl fH))] := hD
        try dsimp only at wr_5
        try simp only [Int32.reduceToInt, Int64.reduceToInt] at wr_5
        refine kCallI (wr := [(mD, .inl (cL, 256, .inr (.inl fD))), (mH, .inl (cI, 512, .inl fH))]) (va_runV (As := [.int 3, .long r_5]) (rest := []) ⟨hx, hb, hml, hown, hts⟩ (q_puts l D cI cL cB cZ cT _ m0 mH mI mJ mS mD mX mA mB mW mL aM aC mM mQ oV pL lI sW dP sT aT 12 iW iH aE mN sZ tS tA tW lS fI j0 j1 j2 j3 s0 s1 s2 s3 3 r_5 (by first | with_reducible assumption | ((try simp only [jT_, jP_, jD_, jC_, jB_, jW_, Int32.reduceToInt, Int64.reduceToInt, true_or, or_true, true_and, and_true]) <;> omega)) (by first | with_reducible assumption | ((try simp only [jT_, jP_, jD_, jC_, jB_, jW_, Int32.reduceToInt, Int64.reduceToInt, true_or, or_true, true_and, and_true]) <;> omega)) (by first | with_reducible assumption | ((try simp only [jT_, jP_, jD_, jC_, jB_, jW_, Int32.reduceToInt, Int64.reduceToInt, true_or, or_true, true_and, and_true]) <;> omega)) (by first | with_reducible assumption | ((try simp only [jT_, jP_, jD_, jC_, jB_, jW_, Int32.reduceToInt, Int64.reduceToInt, true_or, or_true, true_and, and_true]) <;> omega)) (by decide)) (cwV 2 hts gX8_copies_X8_puts rfl rfl rfl (by decide +kernel) ⟨Nat.le_of_ble_eq_true rfl, Nat.le_of_ble_eq_true rfl⟩) (kPreV hG hP hD [4, 0, 1, 2] rfl (by decide) 0 8 rfl rfl rfl) rfl rfl hl.1 rfl (lv_room (Nat.le_of_ble_eq_true rfl)) dX8_copies_94 ⟨Nat.le_of_ble_eq_true rfl, Nat.le_of_ble_eq_true rfl⟩) hA hP hD hS [4, 0, 1, 2] [3, 5] rfl rfl (by decide) (by decide) (fun r_6 u_r_6 H locs wr_6 hP hD hS => ?_)
        have hP : va_P D vwCl [(mD, .inl (cL, 256, .inr (.inl fD))), (mH, .inl (cI, 512, .inl fH)), (m0, .inr (8, [.ref mH, .int aM, .long aC, .int mM, .long mQ, .int oV, .int pL, .int lI, .int sW, .int dP, .int sT, .long aT, .int 12, .int iW, .ref mI, .ref mJ, .ref mS, .ref mD, .int iH, .int aE, .int mN, .long sZ, .ref mX, .int tS, .int tA, .int tW, .ref mA, .ref mB, .ref mW, .ref mL, .int lS])), (mI, .inl (cL, 1200, .inr (.inl u_r_6.1))), (mJ, .inl (cI, 4, .inl (k4i u_r_6.2.1 u_r_6.2.2.1 u_r_6.2.2.2.1 u_r_6.2.2.2.2.1))), (mS, .inl (cI, 4, .inl (k4i u_r_6.2.2.2.2.2.1 u_r_6.2.2.2.2.2.2.1 u_r_6.2.2.2.2.2.2.2.1 u_r_6.2.2.2.2.2.2.2.2)))] H := hP
        have hD : va_D A [(mD, .inl (cL, 256, .inr (.inl fD))), (mH, .inl (cI, 512, .inl fH)), (m0, .inr (8, [.ref mH, .int aM, .long aC, .int mM, .long mQ, .int oV, .int pL, .int lI, .int sW, .int dP, .int sT, .long aT, .int 12, .int iW, .ref mI, .ref mJ, .ref mS, .ref mD, .int iH, .int aE, .int mN, .long sZ, .ref mX, .int tS, .int tA, .int tW, .ref mA, .ref mB, .ref mW, .ref mL, .int lS])), (mI, .inl (cL, 1200, .inr (.inl u_r_6.1))), (mJ, .inl (cI, 4, .inl (k4i u_r_6.2.1 u_r_6.2.2.1 u_r_6.2.2.2.1 u_r_6.2.2.2.2.1))), (mS, .inl (cI, 4, .inl (k4i u_r_6.2.2.2.2.2.1 u_r_6.2.2.2.2.2.2.1 u_r_6.2.2.2.2.2.2.2.1 u_r_6.2.2.2.2.2.2.2.2)))] := hD
        try dsimp only at wr_6
        try simp only [Int32.reduceToInt, Int64.reduceToInt] at wr_6
        obtain ⟨wr_6_0, wr_6_1, wr_6_2, wr_6_3, wr_6_4⟩ := wr_6
        refine lv_if_ne (tgt := 102) hx hb dX8_copies_97 (by decide) (fun c_97_6 => ?_) (fun c_97_6 => ?_)
        · have t_97_6 := c_97_6
          try simp only [kb_eq0, kb_ne0, lg_cmp_lt, lg_cmp_le, lg_cmp_gt, lg_cmp_ge, lg_cmp_eq] at t_97_6
          try simp only [Int32.lt_iff_toInt_lt, Int32.le_iff_toInt_le, ← Int32.toInt_inj, Int64.lt_iff_toInt_lt, Int64.le_iff_toInt_le, ← Int64.toInt_inj, Int32.toInt_toInt64, Int32.reduceToInt, Int64.reduceToInt] at t_97_6
          refine lv_aload_n hx hb dX8_copies_102 rfl (lv_at hl 0 rfl) ?_
          refine lv_iconst (v := 1) hx hb dX8_copies_103 (by decide) ?_
          refine va_put (D := D) (ci := 8) (v := .int 1) (ty := .boolean) (C := RX8) (T := TX8) (N := 31) hx hb hts iX8_copies_X8 tyX8 tyX8_ok nmX8 hown hK hP hD hS 2 rfl rfl 13 (by decide) (hts (.fieldLink RX8 115 "TapeCalculatorModel" "isWritten" "Z") (List.mem_of_getElem? (i := 4) rfl)) (fun _ h9 => h9) rfl (by decide +kernel) rfl rfl (Nat.le_of_ble_eq_true rfl) dX8_copies_104 (fun H locs hP hD hS => ?_)
          have hP : va_P D vwCl [(mD, .inl (cL, 256, .inr (.inl fD))), (mH, .inl (cI, 512, .inl fH)), (m0, .inr (8, [.ref mH, .int aM, .long aC, .int mM, .long mQ, .int oV, .int pL, .int lI, .int sW, .int dP, .int sT, .long aT, .int 12, .int 1, .ref mI, .ref mJ, .ref mS, .ref mD, .int iH, .int aE, .int mN, .long sZ, .ref mX, .int tS, .int tA, .int tW, .ref mA, .ref mB, .ref mW, .ref mL, .int lS])), (mI, .inl (cL, 1200, .inr (.inl u_r_6.1))), (mJ, .inl (cI, 4, .inl (k4i u_r_6.2.1 u_r_6.2.2.1 u_r_6.2.2.2.1 u_r_6.2.2.2.2.1))), (mS, .inl (cI, 4, .inl (k4i u_r_6.2.2.2.2.2.1 u_r_6.2.2.2.2.2.2.1 u_r_6.2.2.2.2.2.2.2.1 u_r_6.2.2.2.2.2.2.2.2)))] H := hP
          have hD : va_D A [(mD, .inl (cL, 256, .inr (.inl fD))), (mH, .inl (cI, 512, .inl fH)), (m0, .inr (8, [.ref mH, .int aM, .long aC, .int mM, .long mQ, .int oV, .int pL, .int lI, .int sW, .int dP, .int sT, .long aT, .int 12, .int 1, .ref mI, .ref mJ, .ref mS, .ref mD, .int iH, .int aE, .int mN, .long sZ, .ref mX, .int tS, .int tA, .int tW, .ref mA, .ref mB, .ref mW, .ref mL, .int lS])), (mI, .inl (cL, 1200, .inr (.inl u_r_6.1))), (mJ, .inl (cI, 4, .inl (k4i u_r_6.2.1 u_r_6.2.2.1 u_r_6.2.2.2.1 u_r_6.2.2.2.2.1))), (mS, .inl (cI, 4, .inl (k4i u_r_6.2.2.2.2.2.1 u_r_6.2.2.2.2.2.2.1 u_r_6.2.2.2.2.2.2.2.1 u_r_6.2.2.2.2.2.2.2.2)))] := hD
          refine lv_iconst (v := 0) hx hb dX8_copies_107 (by decide) ?_
          refine kIret (u := (pL, dP, 12, 1, fH, fD, u_r_6.1, u_r_6.2.1, u_r_6.2.2.1, u_r_6.2.2.2.1, u_r_6.2.2.2.2.1, u_r_6.2.2.2.2.2.1, u_r_6.2.2.2.2.2.2.1, u_r_6.2.2.2.2.2.2.2.1, u_r_6.2.2.2.2.2.2.2.2)) hx hb hr rfl hlocks hS dX8_copies_108 ?_ (hP.sub [2, 1, 3, 4, 5, 0] rfl) (hD.sub [2, 1, 3, 4, 5, 0] (by decide) rfl)
          try dsimp only
          repeat' (with_reducible apply And.intro)
          all_goals first | with_reducible assumption | ((try simp only [jT_, jP_, jD_, jC_, jB_, jW_, Int32.reduceToInt, Int64.reduceToInt, true_or, or_true, true_and, and_true]) <;> omega)
        · have t_97_6 := c_97_6
          try simp only [kb_eq0, kb_ne0, lg_cmp_lt, lg_cmp_le, lg_cmp_gt, lg_cmp_ge, lg_cmp_eq] at t_97_6
          try simp only [Int32.lt_iff_toInt_lt, Int32.le_iff_toInt_le, ← Int32.toInt_inj, Int64.lt_iff_toInt_lt, Int64.le_iff_toInt_le, ← Int64.toInt_inj, Int32.toInt_toInt64, Int32.reduceToInt, Int64.reduceToInt] at t_97_6
          refine lv_iconst (v := 5) hx hb dX8_copies_100 (by decide) ?_
          refine kIret (u := (pL, dP, 12, iW, fH, fD, u_r_6.1, u_r_6.2.1, u_r_6.2.2.1, u_r_6.2.2.2.1, u_r_6.2.2.2.2.1, u_r_6.2.2.2.2.2.1, u_r_6.2.2.2.2.2.2.1, u_r_6.2.2.2.2.2.2.2.1, u_r_6.2.2.2.2.2.2.2.2)) hx hb hr rfl hlocks hS dX8_copies_101 ?_ (hP.sub [2, 1, 3, 4, 5, 0] rfl) (hD.sub [2, 1, 3, 4, 5, 0] (by decide) rfl)
          try dsimp only
          repeat' (with_reducible apply And.intro)
          all_goals first | with_reducible assumption | ((try simp only [jT_, jP_, jD_, jC_, jB_, jW_, Int32.reduceToInt, Int64.reduceToInt, true_or, or_true, true_and, and_true]) <;> omega)
    · exact absurd (by decide) c_16_1
  · exact absurd c_4_0 (by decide)
set_option maxRecDepth 100000 in
set_option maxHeartbeats 4000000 in
theorem q_copies_13 (l : Launch) (D : va_G) (cI cL cB cZ cT : ClassId) (sz : Nat) (m0 mH mI mJ mS mD mX mA mB mW mL : Nat) (aM : Int32) (aC : Int64) (mM : Int32) (mQ : Int64) (oV pL lI sW dP sT : Int32) (aT : Int64) (iW iH aE mN : Int32) (sZ : Int64) (tS tA tW lS : Int32) (fH : Nat → Int32) (fI : Nat → Int64) (j0 j1 j2 j3 : Int32) (s0 s1 s2 s3 : Int32) (fD : Nat → Int64) (hpl : jP_ pL) (hdp : jD_ dP) (hch : jC_ 13) (hiw : jW_ iW 13) (ht0 : jT_ s0 j0) (ht1 : jT_ s1 j1) (ht2 : jT_ s2 j2) (ht3 : jT_ s3 j3) (had : 0 ≤ aE.toInt ∧ aE.toInt ≤ 511 ∧ (iH.toInt = 0 ∨ aE.toInt ≤ 510)) : kM (S := (Int32 × Int32 × Int32 × Int32 × (Nat → Int32) × (Nat → Int64) × (Nat → Int64) × Int32 × Int32 × Int32 × Int32 × Int32 × Int32 × Int32 × Int32)) l yX8_copies wsX8_copies ({ frames := 2, cells := 0, slots := 0, locals := 45 }) D (kT cI cL cB cZ cT) [.ref m0] [(m0, .inr (8, [.ref mH, .int aM, .long aC, .int mM, .long mQ, .int oV, .int pL, .int lI, .int sW, .int dP, .int sT, .long aT, .int 13, .int iW, .ref mI, .ref mJ, .ref mS, .ref mD, .int iH, .int aE, .int mN, .long sZ, .ref mX, .int tS, .int tA, .int tW, .ref mA, .ref mB, .ref mW, .ref mL, .int lS])), (mH, .inl (cI, 512, .inl fH)), (mI, .inl (cL, 1200, .inr (.inl fI))), (mJ, .inl (cI, 4, .inl (k4i j0 j1 j2 j3))), (mS, .inl (cI, 4, .inl (k4i s0 s1 s2 s3))), (mD, .inl (cL, 256, .inr (.inl fD)))] sz eI (fun r u => (0 ≤ r.toInt ∧ r.toInt ≤ 6) ∧ jP_ (u.1) ∧ jD_ (u.2.1) ∧ jC_ (u.2.2.1) ∧ jW_ (u.2.2.2.1) (u.2.2.1) ∧ jT_ (u.2.2.2.2.2.2.2.2.2.2.2.1) (u.2.2.2.2.2.2.2.1) ∧ jT_ (u.2.2.2.2.2.2.2.2.2.2.2.2.1) (u.2.2.2.2.2.2.2.2.1) ∧ jT_ (u.2.2.2.2.2.2.2.2.2.2.2.2.2.1) (u.2.2.2.2.2.2.2.2.2.1) ∧ jT_ (u.2.2.2.2.2.2.2.2.2.2.2.2.2.2) (u.2.2.2.2.2.2.2.2.2.2.1)) (fun u => [(m0, .inr (8, [.ref mH, .int aM, .long aC, .int mM, .long mQ, .int oV, .int u.1, .int lI, .int sW, .int u.2.1, .int sT, .long aT, .int u.2.2.1, .int u.2.2.2.1, .ref mI, .ref mJ, .ref mS, .ref mD, .int iH, .int aE, .int mN, .long sZ, .ref mX, .int tS, .int tA, .int tW, .ref mA, .ref mB, .ref mW, .ref mL, .int lS])), (mH, .inl (cI, 512, .inl u.2.2.2.2.1)), (mI, .inl (cL, 1200, .inr (.inl u.2.2.2.2.2.2.1))), (mJ, .inl (cI, 4, .inl (k4i u.2.2.2.2.2.2.2.1 u.2.2.2.2.2.2.2.2.1 u.2.2.2.2.2.2.2.2.2.1 u.2.2.2.2.2.2.2.2.2.2.1))), (mS, .inl (cI, 4, .inl (k4i u.2.2.2.2.2.2.2.2.2.2.2.1 u.2.2.2.2.2.2.2.2.2.2.2.2.1 u.2.2.2.2.2.2.2.2.2.2.2.2.2.1 u.2.2.2.2.2.2.2.2.2.2.2.2.2.2))), (mD, .inl (cL, 256, .inr (.inl u.2.2.2.2.2.1)))]) 0 0 := by
  refine kStart (cc := cX8_copies) (maxL := 6) (ret := (some .int)) (own := RX8) (by decide) rfl rfl (Nat.le_of_ble_eq_true rfl) ?_
  intro p e s m args below meth c A ls hx hb hr hml hown hts hlocks hnm hsz hA hG hP hD hS hl
  have hK := hG.1
  have hl : lv_has ls 6 [(0, .ref m0)] := hl
  have hk8 := k_and (x := dP + 1) (m := 255) 8 (by decide) (by decide)
  have hdp0 : 0 ≤ dP.toInt ∧ dP.toInt ≤ 255 := hdp
  refine lv_aload_n hx hb dX8_copies_0 rfl (lv_at hl 0 rfl) ?_
  refine va_get (D := D) (ci := 8) (v := .int 13) (C := RX8) (T := TX8) (N := 31) hx hb hts iX8_copies_X8 hown hK hP 0 rfl rfl 12 (by decide) (hts (.fieldLink RX8 43 "TapeCalculatorModel" "chosen" "I") (List.mem_of_getElem? (i := 1) rfl)) (fun _ h9 => h9) rfl dX8_copies_1 ?_
  refine lv_if_ne (tgt := 10) hx hb dX8_copies_4 (by decide) (fun c_4_0 => ?_) (fun c_4_0 => ?_)
  · have t_4_0 := c_4_0
    try simp only [kb_eq0, kb_ne0, lg_cmp_lt, lg_cmp_le, lg_cmp_gt, lg_cmp_ge, lg_cmp_eq] at t_4_0
    try simp only [Int32.lt_iff_toInt_lt, Int32.le_iff_toInt_le, ← Int32.toInt_inj, Int64.lt_iff_toInt_lt, Int64.le_iff_toInt_le, ← Int64.toInt_inj, Int32.toInt_toInt64, Int32.reduceToInt, Int64.reduceToInt] at t_4_0
    refine lv_aload_n hx hb dX8_copies_10 rfl (lv_at hl 0 rfl) ?_
    refine va_get (D := D) (ci := 8) (v := .int 13) (C := RX8) (T := TX8) (N := 31) hx hb hts iX8_copies_X8 hown hK hP 0 rfl rfl 12 (by decide) (hts (.fieldLink RX8 43 "TapeCalculatorModel" "chosen" "I") (List.mem_of_getElem? (i := 1) rfl)) (fun _ h9 => h9) rfl dX8_copies_11 ?_
    refine lv_bipush (v := 12) hx hb dX8_copies_14 (by decide) ?_
    refine lv_icmp_le (tgt := 73) hx hb dX8_copies_16 (by decide) (fun c_16_1 => ?_) (fun c_16_1 => ?_)
    · exact absurd c_16_1 (by decide)
    · have t_16_1 := c_16_1
      try simp only [kb_eq0, kb_ne0, lg_cmp_lt, lg_cmp_le, lg_cmp_gt, lg_cmp_ge, lg_cmp_eq] at t_16_1
      try simp only [Int32.lt_iff_toInt_lt, Int32.le_iff_toInt_le, ← Int32.toInt_inj, Int64.lt_iff_toInt_lt, Int64.le_iff_toInt_le, ← Int64.toInt_inj, Int32.toInt_toInt64, Int32.reduceToInt, Int64.reduceToInt] at t_16_1
      refine lv_aload_n hx hb dX8_copies_19 rfl (lv_at hl 0 rfl) ?_
      refine va_get (D := D) (ci := 8) (v := .int 13) (C := RX8) (T := TX8) (N := 31) hx hb hts iX8_copies_X8 hown hK hP 0 rfl rfl 12 (by decide) (hts (.fieldLink RX8 43 "TapeCalculatorModel" "chosen" "I") (List.mem_of_getElem? (i := 1) rfl)) (fun _ h9 => h9) rfl dX8_copies_20 ?_
      refine lv_bipush (v := 13) hx hb dX8_copies_23 (by decide) ?_
      refine lv_icmp_ne (tgt := 44) hx hb dX8_copies_25 (by decide) (fun c_25_2 => ?_) (fun c_25_2 => ?_)
      · exact absurd (by decide) c_25_2
      · have t_25_2 := c_25_2
        try simp only [kb_eq0, kb_ne0, lg_cmp_lt, lg_cmp_le, lg_cmp_gt, lg_cmp_ge, lg_cmp_eq] at t_25_2
        try simp only [Int32.lt_iff_toInt_lt, Int32.le_iff_toInt_le, ← Int32.toInt_inj, Int64.lt_iff_toInt_lt, Int64.le_iff_toInt_le, ← Int64.toInt_inj, Int32.toInt_toInt64, Int32.reduceToInt, Int64.reduceToInt] at t_25_2
        refine lv_aload_n hx hb dX8_copies_28 rfl (lv_at hl 0 rfl) ?_
        refine lv_aload_n hx hb dX8_copies_29 rfl (lv_at hl 0 rfl) ?_
        refine va_get (D := D) (ci := 8) (v := .ref mD) (C := RX8) (T := TX8) (N := 31) hx hb hts iX8_copies_X8 hown hK hP 0 rfl rfl 17 (by decide) (hts (.fieldLink RX8 23 "TapeCalculatorModel" "drum" "[J") (List.mem_of_getElem? (i := 2) rfl)) (fun _ h9 => h9) rfl dX8_copies_30 ?_
        refine lv_aload_n hx hb dX8_copies_33 rfl (lv_at hl 0 rfl) ?_
        refine va_get (D := D) (ci := 8) (v := .int dP) (C := RX8) (T := TX8) (N := 31) hx hb hts iX8_copies_X8 hown hK hP 0 rfl rfl 9 (by decide) (hts (.fieldLink RX8 84 "TapeCalculatorModel" "drumPlace" "I") (List.mem_of_getElem? (i := 3) rfl)) (fun _ h9 => h9) rfl dX8_copies_34 ?_
        refine va_lald hx hb hK hP 5 1 rfl rfl (vp_in_iff.mpr (by omega)) dX8_copies_37 ?_
        refine kCallVd (wr := [(mI, .inl (cL, 1200, .inr (.inl fI))), (mJ, .inl (cI, 4, .inl (k4i j0 j1 j2 j3))), (mS, .inl (cI, 4, .inl (k4i s0 s1 s2 s3))), (mD, .inl (cL, 256, .inr (.inl fD)))]) (va_runV (As := [.long (fD dP.toNatClampNeg)]) (rest := []) ⟨hx, hb, hml, hown, hts⟩ (q_store l D cI cL cB cZ cT _ m0 mH mI mJ mS mD mX mA mB mW mL aM aC mM mQ oV pL lI sW dP sT aT 13 iW iH aE mN sZ tS tA tW lS fH (fD dP.toNatClampNeg) (by omega)) (cwV 1 hts gX8_copies_X8_store rfl rfl rfl (by decide +kernel) ⟨Nat.le_of_ble_eq_true rfl, Nat.le_of_ble_eq_true rfl⟩) (kPreV hG hP hD [0, 1] rfl (by decide) 0 8 rfl rfl rfl) rfl rfl hl.1 rfl (lv_room (Nat.le_of_ble_eq_true rfl)) dX8_copies_38 ⟨Nat.le_of_ble_eq_true rfl, Nat.le_of_ble_eq_true rfl⟩) hA hP hD hS [0, 1] [2, 3, 4, 5] rfl rfl (by decide) (by decide) (fun _ u_r_4 H locs wr_4 hP hD hS => ?_)
        have hP : va_P D vwCl [(mI, .inl (cL, 1200, .inr (.inl fI))), (mJ, .inl (cI, 4, .inl (k4i j0 j1 j2 j3))), (mS, .inl (cI, 4, .inl (k4i s0 s1 s2 s3))), (mD, .inl (cL, 256, .inr (.inl fD))), (m0, .inr (8, [.ref mH, .int aM, .long aC, .int mM, .long mQ, .int oV, .int pL, .int lI, .int sW, .int dP, .int sT, .long aT, .int 13, .int iW, .ref mI, .ref mJ, .ref mS, .ref mD, .int iH, .int aE, .int mN, .long sZ, .ref mX, .int tS, .int tA, .int tW, .ref mA, .ref mB, .ref mW, .ref mL, .int lS])), (mH, .inl (cI, 512, .inl u_r_4))] H := hP
        have hD : va_D A [(mI, .inl (cL, 1200, .inr (.inl fI))), (mJ, .inl (cI, 4, .inl (k4i j0 j1 j2 j3))), (mS, .inl (cI, 4, .inl (k4i s0 s1 s2 s3))), (mD, .inl (cL, 256, .inr (.inl fD))), (m0, .inr (8, [.ref mH, .int aM, .long aC, .int mM, .long mQ, .int oV, .int pL, .int lI, .int sW, .int dP, .int sT, .long aT, .int 13, .int iW, .ref mI, .ref mJ, .ref mS, .ref mD, .int iH, .int aE, .int mN, .long sZ, .ref mX, .int tS, .int tA, .int tW, .ref mA, .ref mB, .ref mW, .ref mL, .int lS])), (mH, .inl (cI, 512, .inl u_r_4))] := hD
        try dsimp only at wr_4
        try simp only [Int32.reduceToInt, Int64.reduceToInt] at wr_4
        refine lv_goto (tgt := 57) hx hb dX8_copies_41 (by decide) ?_
        refine lv_aload_n hx hb dX8_copies_57 rfl (lv_at hl 0 rfl) ?_
        refine lv_aload_n hx hb dX8_copies_58 rfl (lv_at hl 0 rfl) ?_
        refine va_get (D := D) (ci := 8) (v := .int dP) (C := RX8) (T := TX8) (N := 31) hx hb hts iX8_copies_X8 hown hK hP 4 rfl rfl 9 (by decide) (hts (.fieldLink RX8 84 "TapeCalculatorModel" "drumPlace" "I") (List.mem_of_getElem? (i := 3) rfl)) (fun _ h9 => h9) rfl dX8_copies_59 ?_
        refine lv_iconst (v := 1) hx hb dX8_copies_62 (by decide) ?_
        refine lv_iadd hx hb dX8_copies_63 ?_
        refine lv_sipush (v := 255) hx hb dX8_copies_64 (by decide) ?_
        refine lv_iand hx hb dX8_copies_67 ?_
        refine lv_topi (fun x_5 ex_5 => ?_)
        refine va_put (D := D) (ci := 8) (v := .int x_5) (ty := .int) (C := RX8) (T := TX8) (N := 31) hx hb hts iX8_copies_X8 tyX8 tyX8_ok nmX8 hown hK hP hD hS 4 rfl rfl 9 (by decide) (hts (.fieldLink RX8 84 "TapeCalculatorModel" "drumPlace" "I") (List.mem_of_getElem? (i := 3) rfl)) (fun _ h9 => h9) rfl (by decide +kernel) rfl rfl (Nat.le_of_ble_eq_true rfl) dX8_copies_68 (fun H locs hP hD hS => ?_)
        have hP : va_P D vwCl [(mI, .inl (cL, 1200, .inr (.inl fI))), (mJ, .inl (cI, 4, .inl (k4i j0 j1 j2 j3))), (mS, .inl (cI, 4, .inl (k4i s0 s1 s2 s3))), (mD, .inl (cL, 256, .inr (.inl fD))), (m0, .inr (8, [.ref mH, .int aM, .long aC, .int mM, .long mQ, .int oV, .int pL, .int lI, .int sW, .int x_5, .int sT, .long aT, .int 13, .int iW, .ref mI, .ref mJ, .ref mS, .ref mD, .int iH, .int aE, .int mN, .long sZ, .ref mX, .int tS, .int tA, .int tW, .ref mA, .ref mB, .ref mW, .ref mL, .int lS])), (mH, .inl (cI, 512, .inl u_r_4))] H := hP
        have hD : va_D A [(mI, .inl (cL, 1200, .inr (.inl fI))), (mJ, .inl (cI, 4, .inl (k4i j0 j1 j2 j3))), (mS, .inl (cI, 4, .inl (k4i s0 s1 s2 s3))), (mD, .inl (cL, 256, .inr (.inl fD))), (m0, .inr (8, [.ref mH, .int aM, .long aC, .int mM, .long mQ, .int oV, .int pL, .int lI, .int sW, .int x_5, .int sT, .long aT, .int 13, .int iW, .ref mI, .ref mJ, .ref mS, .ref mD, .int iH, .int aE, .int mN, .long sZ, .ref mX, .int tS, .int tA, .int tW, .ref mA, .ref mB, .ref mW, .ref mL, .int lS])), (mH, .inl (cI, 512, .inl u_r_4))] := hD
        refine lv_iconst (v := 0) hx hb dX8_copies_71 (by decide) ?_
        refine kIret (u := (pL, x_5, 13, iW, u_r_4, fD, fI, j0, j1, j2, j3, s0, s1, s2, s3)) hx hb hr rfl hlocks hS dX8_copies_72 ?_ (hP.sub [4, 5, 0, 1, 2, 3] rfl) (hD.sub [4, 5, 0, 1, 2, 3] (by decide) rfl)
        try rw [← ex_5] at hk8
        try dsimp only
        repeat' (with_reducible apply And.intro)
        all_goals first | with_reducible assumption | ((try simp only [jT_, jP_, jD_, jC_, jB_, jW_, Int32.reduceToInt, Int64.reduceToInt, true_or, or_true, true_and, and_true]) <;> omega)
  · exact absurd c_4_0 (by decide)
set_option maxRecDepth 100000 in
set_option maxHeartbeats 4000000 in
theorem q_copies_14 (l : Launch) (D : va_G) (cI cL cB cZ cT : ClassId) (sz : Nat) (m0 mH mI mJ mS mD mX mA mB mW mL : Nat) (aM : Int32) (aC : Int64) (mM : Int32) (mQ : Int64) (oV pL lI sW dP sT : Int32) (aT : Int64) (iW iH aE mN : Int32) (sZ : Int64) (tS tA tW lS : Int32) (fH : Nat → Int32) (fI : Nat → Int64) (j0 j1 j2 j3 : Int32) (s0 s1 s2 s3 : Int32) (fD : Nat → Int64) (hpl : jP_ pL) (hdp : jD_ dP) (hch : jC_ 14) (hiw : jW_ iW 14) (ht0 : jT_ s0 j0) (ht1 : jT_ s1 j1) (ht2 : jT_ s2 j2) (ht3 : jT_ s3 j3) (had : 0 ≤ aE.toInt ∧ aE.toInt ≤ 511 ∧ (iH.toInt = 0 ∨ aE.toInt ≤ 510)) : kM (S := (Int32 × Int32 × Int32 × Int32 × (Nat → Int32) × (Nat → Int64) × (Nat → Int64) × Int32 × Int32 × Int32 × Int32 × Int32 × Int32 × Int32 × Int32)) l yX8_copies wsX8_copies ({ frames := 2, cells := 0, slots := 0, locals := 45 }) D (kT cI cL cB cZ cT) [.ref m0] [(m0, .inr (8, [.ref mH, .int aM, .long aC, .int mM, .long mQ, .int oV, .int pL, .int lI, .int sW, .int dP, .int sT, .long aT, .int 14, .int iW, .ref mI, .ref mJ, .ref mS, .ref mD, .int iH, .int aE, .int mN, .long sZ, .ref mX, .int tS, .int tA, .int tW, .ref mA, .ref mB, .ref mW, .ref mL, .int lS])), (mH, .inl (cI, 512, .inl fH)), (mI, .inl (cL, 1200, .inr (.inl fI))), (mJ, .inl (cI, 4, .inl (k4i j0 j1 j2 j3))), (mS, .inl (cI, 4, .inl (k4i s0 s1 s2 s3))), (mD, .inl (cL, 256, .inr (.inl fD)))] sz eI (fun r u => (0 ≤ r.toInt ∧ r.toInt ≤ 6) ∧ jP_ (u.1) ∧ jD_ (u.2.1) ∧ jC_ (u.2.2.1) ∧ jW_ (u.2.2.2.1) (u.2.2.1) ∧ jT_ (u.2.2.2.2.2.2.2.2.2.2.2.1) (u.2.2.2.2.2.2.2.1) ∧ jT_ (u.2.2.2.2.2.2.2.2.2.2.2.2.1) (u.2.2.2.2.2.2.2.2.1) ∧ jT_ (u.2.2.2.2.2.2.2.2.2.2.2.2.2.1) (u.2.2.2.2.2.2.2.2.2.1) ∧ jT_ (u.2.2.2.2.2.2.2.2.2.2.2.2.2.2) (u.2.2.2.2.2.2.2.2.2.2.1)) (fun u => [(m0, .inr (8, [.ref mH, .int aM, .long aC, .int mM, .long mQ, .int oV, .int u.1, .int lI, .int sW, .int u.2.1, .int sT, .long aT, .int u.2.2.1, .int u.2.2.2.1, .ref mI, .ref mJ, .ref mS, .ref mD, .int iH, .int aE, .int mN, .long sZ, .ref mX, .int tS, .int tA, .int tW, .ref mA, .ref mB, .ref mW, .ref mL, .int lS])), (mH, .inl (cI, 512, .inl u.2.2.2.2.1)), (mI, .inl (cL, 1200, .inr (.inl u.2.2.2.2.2.2.1))), (mJ, .inl (cI, 4, .inl (k4i u.2.2.2.2.2.2.2.1 u.2.2.2.2.2.2.2.2.1 u.2.2.2.2.2.2.2.2.2.1 u.2.2.2.2.2.2.2.2.2.2.1))), (mS, .inl (cI, 4, .inl (k4i u.2.2.2.2.2.2.2.2.2.2.2.1 u.2.2.2.2.2.2.2.2.2.2.2.2.1 u.2.2.2.2.2.2.2.2.2.2.2.2.2.1 u.2.2.2.2.2.2.2.2.2.2.2.2.2.2))), (mD, .inl (cL, 256, .inr (.inl u.2.2.2.2.2.1)))]) 0 0 := by
  refine kStart (cc := cX8_copies) (maxL := 6) (ret := (some .int)) (own := RX8) (by decide) rfl rfl (Nat.le_of_ble_eq_true rfl) ?_
  intro p e s m args below meth c A ls hx hb hr hml hown hts hlocks hnm hsz hA hG hP hD hS hl
  have hK := hG.1
  have hl : lv_has ls 6 [(0, .ref m0)] := hl
  have hk8 := k_and (x := dP + 1) (m := 255) 8 (by decide) (by decide)
  have hdp0 : 0 ≤ dP.toInt ∧ dP.toInt ≤ 255 := hdp
  refine lv_aload_n hx hb dX8_copies_0 rfl (lv_at hl 0 rfl) ?_
  refine va_get (D := D) (ci := 8) (v := .int 14) (C := RX8) (T := TX8) (N := 31) hx hb hts iX8_copies_X8 hown hK hP 0 rfl rfl 12 (by decide) (hts (.fieldLink RX8 43 "TapeCalculatorModel" "chosen" "I") (List.mem_of_getElem? (i := 1) rfl)) (fun _ h9 => h9) rfl dX8_copies_1 ?_
  refine lv_if_ne (tgt := 10) hx hb dX8_copies_4 (by decide) (fun c_4_0 => ?_) (fun c_4_0 => ?_)
  · have t_4_0 := c_4_0
    try simp only [kb_eq0, kb_ne0, lg_cmp_lt, lg_cmp_le, lg_cmp_gt, lg_cmp_ge, lg_cmp_eq] at t_4_0
    try simp only [Int32.lt_iff_toInt_lt, Int32.le_iff_toInt_le, ← Int32.toInt_inj, Int64.lt_iff_toInt_lt, Int64.le_iff_toInt_le, ← Int64.toInt_inj, Int32.toInt_toInt64, Int32.reduceToInt, Int64.reduceToInt] at t_4_0
    refine lv_aload_n hx hb dX8_copies_10 rfl (lv_at hl 0 rfl) ?_
    refine va_get (D := D) (ci := 8) (v := .int 14) (C := RX8) (T := TX8) (N := 31) hx hb hts iX8_copies_X8 hown hK hP 0 rfl rfl 12 (by decide) (hts (.fieldLink RX8 43 "TapeCalculatorModel" "chosen" "I") (List.mem_of_getElem? (i := 1) rfl)) (fun _ h9 => h9) rfl dX8_copies_11 ?_
    refine lv_bipush (v := 12) hx hb dX8_copies_14 (by decide) ?_
    refine lv_icmp_le (tgt := 73) hx hb dX8_copies_16 (by decide) (fun c_16_1 => ?_) (fun c_16_1 => ?_)
    · exact absurd c_16_1 (by decide)
    · have t_16_1 := c_16_1
      try simp only [kb_eq0, kb_ne0, lg_cmp_lt, lg_cmp_le, lg_cmp_gt, lg_cmp_ge, lg_cmp_eq] at t_16_1
      try simp only [Int32.lt_iff_toInt_lt, Int32.le_iff_toInt_le, ← Int32.toInt_inj, Int64.lt_iff_toInt_lt, Int64.le_iff_toInt_le, ← Int64.toInt_inj, Int32.toInt_toInt64, Int32.reduceToInt, Int64.reduceToInt] at t_16_1
      refine lv_aload_n hx hb dX8_copies_19 rfl (lv_at hl 0 rfl) ?_
      refine va_get (D := D) (ci := 8) (v := .int 14) (C := RX8) (T := TX8) (N := 31) hx hb hts iX8_copies_X8 hown hK hP 0 rfl rfl 12 (by decide) (hts (.fieldLink RX8 43 "TapeCalculatorModel" "chosen" "I") (List.mem_of_getElem? (i := 1) rfl)) (fun _ h9 => h9) rfl dX8_copies_20 ?_
      refine lv_bipush (v := 13) hx hb dX8_copies_23 (by decide) ?_
      refine lv_icmp_ne (tgt := 44) hx hb dX8_copies_25 (by decide) (fun c_25_2 => ?_) (fun c_25_2 => ?_)
      · have t_25_2 := c_25_2
        try simp only [kb_eq0, kb_ne0, lg_cmp_lt, lg_cmp_le, lg_cmp_gt, lg_cmp_ge, lg_cmp_eq] at t_25_2
        try simp only [Int32.lt_iff_toInt_lt, Int32.le_iff_toInt_le, ← Int32.toInt_inj, Int64.lt_iff_toInt_lt, Int64.le_iff_toInt_le, ← Int64.toInt_inj, Int32.toInt_toInt64, Int32.reduceToInt, Int64.reduceToInt] at t_25_2
        refine lv_aload_n hx hb dX8_copies_44 rfl (lv_at hl 0 rfl) ?_
        refine va_get (D := D) (ci := 8) (v := .ref mD) (C := RX8) (T := TX8) (N := 31) hx hb hts iX8_copies_X8 hown hK hP 0 rfl rfl 17 (by decide) (hts (.fieldLink RX8 23 "TapeCalculatorModel" "drum" "[J") (List.mem_of_getElem? (i := 2) rfl)) (fun _ h9 => h9) rfl dX8_copies_45 ?_
        refine lv_aload_n hx hb dX8_copies_48 rfl (lv_at hl 0 rfl) ?_
        refine va_get (D := D) (ci := 8) (v := .int dP) (C := RX8) (T := TX8) (N := 31) hx hb hts iX8_copies_X8 hown hK hP 0 rfl rfl 9 (by decide) (hts (.fieldLink RX8 84 "TapeCalculatorModel" "drumPlace" "I") (List.mem_of_getElem? (i := 3) rfl)) (fun _ h9 => h9) rfl dX8_copies_49 ?_
        refine lv_aload_n hx hb dX8_copies_52 rfl (lv_at hl 0 rfl) ?_
        refine kCallL (wr := [(mI, .inl (cL, 1200, .inr (.inl fI))), (mJ, .inl (cI, 4, .inl (k4i j0 j1 j2 j3))), (mS, .inl (cI, 4, .inl (k4i s0 s1 s2 s3))), (mD, .inl (cL, 256, .inr (.inl fD)))]) (va_runV (As := []) (rest := [.int dP, .ref mD]) ⟨hx, hb, hml, hown, hts⟩ (q_operandBits l D cI cL cB cZ cT _ m0 mH mI mJ mS mD mX mA mB mW mL aM aC mM mQ oV pL lI sW dP sT aT 14 iW iH aE mN sZ tS tA tW lS fH (by omega)) (cwV 0 hts gX8_copies_X8_operandBits rfl rfl rfl (by decide +kernel) ⟨Nat.le_of_ble_eq_true rfl, Nat.le_of_ble_eq_true rfl⟩) (kPreV hG hP hD [0, 1] rfl (by decide) 0 8 rfl rfl rfl) rfl rfl hl.1 rfl (lv_room (Nat.le_of_ble_eq_true rfl)) dX8_copies_53 ⟨Nat.le_of_ble_eq_true rfl, Nat.le_of_ble_eq_true rfl⟩) hA hP hD hS [0, 1] [2, 3, 4, 5] rfl rfl (by decide) (by decide) (fun r_4 u_r_4 H locs wr_4 hP hD hS => ?_)
        have hP : va_P D vwCl [(mI, .inl (cL, 1200, .inr (.inl fI))), (mJ, .inl (cI, 4, .inl (k4i j0 j1 j2 j3))), (mS, .inl (cI, 4, .inl (k4i s0 s1 s2 s3))), (mD, .inl (cL, 256, .inr (.inl fD))), (m0, .inr (8, [.ref mH, .int aM, .long aC, .int mM, .long mQ, .int oV, .int pL, .int lI, .int sW, .int dP, .int sT, .long aT, .int 14, .int iW, .ref mI, .ref mJ, .ref mS, .ref mD, .int iH, .int aE, .int mN, .long sZ, .ref mX, .int tS, .int tA, .int tW, .ref mA, .ref mB, .ref mW, .ref mL, .int lS])), (mH, .inl (cI, 512, .inl fH))] H := hP
        have hD : va_D A [(mI, .inl (cL, 1200, .inr (.inl fI))), (mJ, .inl (cI, 4, .inl (k4i j0 j1 j2 j3))), (mS, .inl (cI, 4, .inl (k4i s0 s1 s2 s3))), (mD, .inl (cL, 256, .inr (.inl fD))), (m0, .inr (8, [.ref mH, .int aM, .long aC, .int mM, .long mQ, .int oV, .int pL, .int lI, .int sW, .int dP, .int sT, .long aT, .int 14, .int iW, .ref mI, .ref mJ, .ref mS, .ref mD, .int iH, .int aE, .int mN, .long sZ, .ref mX, .int tS, .int tA, .int tW, .ref mA, .ref mB, .ref mW, .ref mL, .int lS])), (mH, .inl (cI, 512, .inl fH))] := hD
        try dsimp only at wr_4
        try simp only [Int32.reduceToInt, Int64.reduceToInt] at wr_4
        refine va_last hx hb hK hP hD hS 3 1 rfl rfl (vp_in_iff.mpr (by omega)) dX8_copies_56 (fun H locs hP hD hS => ?_)
        have hP : va_P D vwCl [(mI, .inl (cL, 1200, .inr (.inl fI))), (mJ, .inl (cI, 4, .inl (k4i j0 j1 j2 j3))), (mS, .inl (cI, 4, .inl (k4i s0 s1 s2 s3))), (mD, .inl (cL, 256, .inr (.inl (vp_updL fD dP.toNatClampNeg r_4)))), (m0, .inr (8, [.ref mH, .int aM, .long aC, .int mM, .long mQ, .int oV, .int pL, .int lI, .int sW, .int dP, .int sT, .long aT, .int 14, .int iW, .ref mI, .ref mJ, .ref mS, .ref mD, .int iH, .int aE, .int mN, .long sZ, .ref mX, .int tS, .int tA, .int tW, .ref mA, .ref mB, .ref mW, .ref mL, .int lS])), (mH, .inl (cI, 512, .inl fH))] H := hP
        have hD : va_D A [(mI, .inl (cL, 1200, .inr (.inl fI))), (mJ, .inl (cI, 4, .inl (k4i j0 j1 j2 j3))), (mS, .inl (cI, 4, .inl (k4i s0 s1 s2 s3))), (mD, .inl (cL, 256, .inr (.inl (vp_updL fD dP.toNatClampNeg r_4)))), (m0, .inr (8, [.ref mH, .int aM, .long aC, .int mM, .long mQ, .int oV, .int pL, .int lI, .int sW, .int dP, .int sT, .long aT, .int 14, .int iW, .ref mI, .ref mJ, .ref mS, .ref mD, .int iH, .int aE, .int mN, .long sZ, .ref mX, .int tS, .int tA, .int tW, .ref mA, .ref mB, .ref mW, .ref mL, .int lS])), (mH, .inl (cI, 512, .inl fH))] := hD
        refine lv_aload_n hx hb dX8_copies_57 rfl (lv_at hl 0 rfl) ?_
        refine lv_aload_n hx hb dX8_copies_58 rfl (lv_at hl 0 rfl) ?_
        refine va_get (D := D) (ci := 8) (v := .int dP) (C := RX8) (T := TX8) (N := 31) hx hb hts iX8_copies_X8 hown hK hP 4 rfl rfl 9 (by decide) (hts (.fieldLink RX8 84 "TapeCalculatorModel" "drumPlace" "I") (List.mem_of_getElem? (i := 3) rfl)) (fun _ h9 => h9) rfl dX8_copies_59 ?_
        refine lv_iconst (v := 1) hx hb dX8_copies_62 (by decide) ?_
        refine lv_iadd hx hb dX8_copies_63 ?_
        refine lv_sipush (v := 255) hx hb dX8_copies_64 (by decide) ?_
        refine lv_iand hx hb dX8_copies_67 ?_
        refine lv_topi (fun x_5 ex_5 => ?_)
        refine va_put (D := D) (ci := 8) (v := .int x_5) (ty := .int) (C := RX8) (T := TX8) (N := 31) hx hb hts iX8_copies_X8 tyX8 tyX8_ok nmX8 hown hK hP hD hS 4 rfl rfl 9 (by decide) (hts (.fieldLink RX8 84 "TapeCalculatorModel" "drumPlace" "I") (List.mem_of_getElem? (i := 3) rfl)) (fun _ h9 => h9) rfl (by decide +kernel) rfl rfl (Nat.le_of_ble_eq_true rfl) dX8_copies_68 (fun H locs hP hD hS => ?_)
        have hP : va_P D vwCl [(mI, .inl (cL, 1200, .inr (.inl fI))), (mJ, .inl (cI, 4, .inl (k4i j0 j1 j2 j3))), (mS, .inl (cI, 4, .inl (k4i s0 s1 s2 s3))), (mD, .inl (cL, 256, .inr (.inl (vp_updL fD dP.toNatClampNeg r_4)))), (m0, .inr (8, [.ref mH, .int aM, .long aC, .int mM, .long mQ, .int oV, .int pL, .int lI, .int sW, .int x_5, .int sT, .long aT, .int 14, .int iW, .ref mI, .ref mJ, .ref mS, .ref mD, .int iH, .int aE, .int mN, .long sZ, .ref mX, .int tS, .int tA, .int tW, .ref mA, .ref mB, .ref mW, .ref mL, .int lS])), (mH, .inl (cI, 512, .inl fH))] H := hP
        have hD : va_D A [(mI, .inl (cL, 1200, .inr (.inl fI))), (mJ, .inl (cI, 4, .inl (k4i j0 j1 j2 j3))), (mS, .inl (cI, 4, .inl (k4i s0 s1 s2 s3))), (mD, .inl (cL, 256, .inr (.inl (vp_updL fD dP.toNatClampNeg r_4)))), (m0, .inr (8, [.ref mH, .int aM, .long aC, .int mM, .long mQ, .int oV, .int pL, .int lI, .int sW, .int x_5, .int sT, .long aT, .int 14, .int iW, .ref mI, .ref mJ, .ref mS, .ref mD, .int iH, .int aE, .int mN, .long sZ, .ref mX, .int tS, .int tA, .int tW, .ref mA, .ref mB, .ref mW, .ref mL, .int lS])), (mH, .inl (cI, 512, .inl fH))] := hD
        refine lv_iconst (v := 0) hx hb dX8_copies_71 (by decide) ?_
        refine kIret (u := (pL, x_5, 14, iW, fH, (vp_updL fD dP.toNatClampNeg r_4), fI, j0, j1, j2, j3, s0, s1, s2, s3)) hx hb hr rfl hlocks hS dX8_copies_72 ?_ (hP.sub [4, 5, 0, 1, 2, 3] rfl) (hD.sub [4, 5, 0, 1, 2, 3] (by decide) rfl)
        try rw [← ex_5] at hk8
        try dsimp only
        repeat' (with_reducible apply And.intro)
        all_goals first | with_reducible assumption | ((try simp only [jT_, jP_, jD_, jC_, jB_, jW_, Int32.reduceToInt, Int64.reduceToInt, true_or, or_true, true_and, and_true]) <;> omega)
      · exact absurd c_25_2 (by decide)
  · exact absurd c_4_0 (by decide)
set_option maxRecDepth 100000 in
theorem q_copies (l : Launch) (D : va_G) (cI cL cB cZ cT : ClassId) (sz : Nat) (m0 mH mI mJ mS mD mX mA mB mW mL : Nat) (aM : Int32) (aC : Int64) (mM : Int32) (mQ : Int64) (oV pL lI sW dP sT : Int32) (aT : Int64) (cH iW iH aE mN : Int32) (sZ : Int64) (tS tA tW lS : Int32) (fH : Nat → Int32) (fI : Nat → Int64) (j0 j1 j2 j3 : Int32) (s0 s1 s2 s3 : Int32) (fD : Nat → Int64) (hpl : jP_ pL) (hdp : jD_ dP) (hch : jC_ cH) (hiw : jW_ iW cH) (ht0 : jT_ s0 j0) (ht1 : jT_ s1 j1) (ht2 : jT_ s2 j2) (ht3 : jT_ s3 j3) (had : 0 ≤ aE.toInt ∧ aE.toInt ≤ 511 ∧ (iH.toInt = 0 ∨ aE.toInt ≤ 510)) : kM (S := (Int32 × Int32 × Int32 × Int32 × (Nat → Int32) × (Nat → Int64) × (Nat → Int64) × Int32 × Int32 × Int32 × Int32 × Int32 × Int32 × Int32 × Int32)) l yX8_copies wsX8_copies ({ frames := 2, cells := 0, slots := 0, locals := 45 }) D (kT cI cL cB cZ cT) [.ref m0] [(m0, .inr (8, [.ref mH, .int aM, .long aC, .int mM, .long mQ, .int oV, .int pL, .int lI, .int sW, .int dP, .int sT, .long aT, .int cH, .int iW, .ref mI, .ref mJ, .ref mS, .ref mD, .int iH, .int aE, .int mN, .long sZ, .ref mX, .int tS, .int tA, .int tW, .ref mA, .ref mB, .ref mW, .ref mL, .int lS])), (mH, .inl (cI, 512, .inl fH)), (mI, .inl (cL, 1200, .inr (.inl fI))), (mJ, .inl (cI, 4, .inl (k4i j0 j1 j2 j3))), (mS, .inl (cI, 4, .inl (k4i s0 s1 s2 s3))), (mD, .inl (cL, 256, .inr (.inl fD)))] sz eI (fun r u => (0 ≤ r.toInt ∧ r.toInt ≤ 6) ∧ jP_ (u.1) ∧ jD_ (u.2.1) ∧ jC_ (u.2.2.1) ∧ jW_ (u.2.2.2.1) (u.2.2.1) ∧ jT_ (u.2.2.2.2.2.2.2.2.2.2.2.1) (u.2.2.2.2.2.2.2.1) ∧ jT_ (u.2.2.2.2.2.2.2.2.2.2.2.2.1) (u.2.2.2.2.2.2.2.2.1) ∧ jT_ (u.2.2.2.2.2.2.2.2.2.2.2.2.2.1) (u.2.2.2.2.2.2.2.2.2.1) ∧ jT_ (u.2.2.2.2.2.2.2.2.2.2.2.2.2.2) (u.2.2.2.2.2.2.2.2.2.2.1)) (fun u => [(m0, .inr (8, [.ref mH, .int aM, .long aC, .int mM, .long mQ, .int oV, .int u.1, .int lI, .int sW, .int u.2.1, .int sT, .long aT, .int u.2.2.1, .int u.2.2.2.1, .ref mI, .ref mJ, .ref mS, .ref mD, .int iH, .int aE, .int mN, .long sZ, .ref mX, .int tS, .int tA, .int tW, .ref mA, .ref mB, .ref mW, .ref mL, .int lS])), (mH, .inl (cI, 512, .inl u.2.2.2.2.1)), (mI, .inl (cL, 1200, .inr (.inl u.2.2.2.2.2.2.1))), (mJ, .inl (cI, 4, .inl (k4i u.2.2.2.2.2.2.2.1 u.2.2.2.2.2.2.2.2.1 u.2.2.2.2.2.2.2.2.2.1 u.2.2.2.2.2.2.2.2.2.2.1))), (mS, .inl (cI, 4, .inl (k4i u.2.2.2.2.2.2.2.2.2.2.2.1 u.2.2.2.2.2.2.2.2.2.2.2.2.1 u.2.2.2.2.2.2.2.2.2.2.2.2.2.1 u.2.2.2.2.2.2.2.2.2.2.2.2.2.2))), (mD, .inl (cL, 256, .inr (.inl u.2.2.2.2.2.1)))]) 0 0 := by
  have hch0 : 0 ≤ cH.toInt ∧ cH.toInt ≤ 14 := hch
  rcases ksw_0_14 cH with hsw | rfl | rfl | rfl | rfl | rfl | rfl | rfl | rfl | rfl | rfl | rfl | rfl | rfl | rfl | rfl
  · exact absurd hsw (by omega)
  · exact q_copies_0 l D cI cL cB cZ cT sz m0 mH mI mJ mS mD mX mA mB mW mL aM aC mM mQ oV pL lI sW dP sT aT iW iH aE mN sZ tS tA tW lS fH fI j0 j1 j2 j3 s0 s1 s2 s3 fD hpl hdp hch hiw ht0 ht1 ht2 ht3 had
  · exact q_copies_1 l D cI cL cB cZ cT sz m0 mH mI mJ mS mD mX mA mB mW mL aM aC mM mQ oV pL lI sW dP sT aT iW iH aE mN sZ tS tA tW lS fH fI j0 j1 j2 j3 s0 s1 s2 s3 fD hpl hdp hch hiw ht0 ht1 ht2 ht3 had
  · exact q_copies_2 l D cI cL cB cZ cT sz m0 mH mI mJ mS mD mX mA mB mW mL aM aC mM mQ oV pL lI sW dP sT aT iW iH aE mN sZ tS tA tW lS fH fI j0 j1 j2 j3 s0 s1 s2 s3 fD hpl hdp hch hiw ht0 ht1 ht2 ht3 had
  · exact q_copies_3 l D cI cL cB cZ cT sz m0 mH mI mJ mS mD mX mA mB mW mL aM aC mM mQ oV pL lI sW dP sT aT iW iH aE mN sZ tS tA tW lS fH fI j0 j1 j2 j3 s0 s1 s2 s3 fD hpl hdp hch hiw ht0 ht1 ht2 ht3 had
  · exact q_copies_4 l D cI cL cB cZ cT sz m0 mH mI mJ mS mD mX mA mB mW mL aM aC mM mQ oV pL lI sW dP sT aT iW iH aE mN sZ tS tA tW lS fH fI j0 j1 j2 j3 s0 s1 s2 s3 fD hpl hdp hch hiw ht0 ht1 ht2 ht3 had
  · exact q_copies_5 l D cI cL cB cZ cT sz m0 mH mI mJ mS mD mX mA mB mW mL aM aC mM mQ oV pL lI sW dP sT aT iW iH aE mN sZ tS tA tW lS fH fI j0 j1 j2 j3 s0 s1 s2 s3 fD hpl hdp hch hiw ht0 ht1 ht2 ht3 had
  · exact q_copies_6 l D cI cL cB cZ cT sz m0 mH mI mJ mS mD mX mA mB mW mL aM aC mM mQ oV pL lI sW dP sT aT iW iH aE mN sZ tS tA tW lS fH fI j0 j1 j2 j3 s0 s1 s2 s3 fD hpl hdp hch hiw ht0 ht1 ht2 ht3 had
  · exact q_copies_7 l D cI cL cB cZ cT sz m0 mH mI mJ mS mD mX mA mB mW mL aM aC mM mQ oV pL lI sW dP sT aT iW iH aE mN sZ tS tA tW lS fH fI j0 j1 j2 j3 s0 s1 s2 s3 fD hpl hdp hch hiw ht0 ht1 ht2 ht3 had
  · exact q_copies_8 l D cI cL cB cZ cT sz m0 mH mI mJ mS mD mX mA mB mW mL aM aC mM mQ oV pL lI sW dP sT aT iW iH aE mN sZ tS tA tW lS fH fI j0 j1 j2 j3 s0 s1 s2 s3 fD hpl hdp hch hiw ht0 ht1 ht2 ht3 had
  · exact q_copies_9 l D cI cL cB cZ cT sz m0 mH mI mJ mS mD mX mA mB mW mL aM aC mM mQ oV pL lI sW dP sT aT iW iH aE mN sZ tS tA tW lS fH fI j0 j1 j2 j3 s0 s1 s2 s3 fD hpl hdp hch hiw ht0 ht1 ht2 ht3 had
  · exact q_copies_10 l D cI cL cB cZ cT sz m0 mH mI mJ mS mD mX mA mB mW mL aM aC mM mQ oV pL lI sW dP sT aT iW iH aE mN sZ tS tA tW lS fH fI j0 j1 j2 j3 s0 s1 s2 s3 fD hpl hdp hch hiw ht0 ht1 ht2 ht3 had
  · exact q_copies_11 l D cI cL cB cZ cT sz m0 mH mI mJ mS mD mX mA mB mW mL aM aC mM mQ oV pL lI sW dP sT aT iW iH aE mN sZ tS tA tW lS fH fI j0 j1 j2 j3 s0 s1 s2 s3 fD hpl hdp hch hiw ht0 ht1 ht2 ht3 had
  · exact q_copies_12 l D cI cL cB cZ cT sz m0 mH mI mJ mS mD mX mA mB mW mL aM aC mM mQ oV pL lI sW dP sT aT iW iH aE mN sZ tS tA tW lS fH fI j0 j1 j2 j3 s0 s1 s2 s3 fD hpl hdp hch hiw ht0 ht1 ht2 ht3 had
  · exact q_copies_13 l D cI cL cB cZ cT sz m0 mH mI mJ mS mD mX mA mB mW mL aM aC mM mQ oV pL lI sW dP sT aT iW iH aE mN sZ tS tA tW lS fH fI j0 j1 j2 j3 s0 s1 s2 s3 fD hpl hdp hch hiw ht0 ht1 ht2 ht3 had
  · exact q_copies_14 l D cI cL cB cZ cT sz m0 mH mI mJ mS mD mX mA mB mW mL aM aC mM mQ oV pL lI sW dP sT aT iW iH aE mN sZ tS tA tW lS fH fI j0 j1 j2 j3 s0 s1 s2 s3 fD hpl hdp hch hiw ht0 ht1 ht2 ht3 had
