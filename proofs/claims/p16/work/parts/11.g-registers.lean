set_option maxRecDepth 100000 in
theorem iX7_told_X7 : ∀ w ∈ wsX70, w ∈ wsX7_told := fun w h => (goodIn_r (big := wsX7_told) wsX70 [15, 16, 17, 18, 19, 20, 21, 22, 23, 24, 25] rfl (by decide +kernel) w h).1
set_option maxRecDepth 100000 in
theorem iX7_told_X0 : ∀ w ∈ wsX00, w ∈ wsX7_told := fun w h => (goodIn_r (big := wsX7_told) wsX00 [26, 27, 28, 29, 30] rfl (by decide +kernel) w h).1
set_option maxRecDepth 100000 in
theorem iX7_told_X6 : ∀ w ∈ wsX60, w ∈ wsX7_told := fun w h => (goodIn_r (big := wsX7_told) wsX60 [31, 32, 33, 34] rfl (by decide +kernel) w h).1
set_option maxRecDepth 100000 in
theorem iX7_told_X1 : ∀ w ∈ wsX10, w ∈ wsX7_told := fun w h => (goodIn_r (big := wsX7_told) wsX10 [35, 36] rfl (by decide +kernel) w h).1
set_option maxRecDepth 100000 in
set_option maxHeartbeats 4000000 in
theorem g_told (l : Launch) (D : va_G) (cI cL cB cZ cT : ClassId) (sz : Nat) (h0 aS aA aU aX aW : Nat) (pl np li sw lst : Int32) (ad : Int64) (sA : Int32) (zA : Int64) (sM : Int32) (zM : Int64) (vO : Int32) (bT aD : Nat) (ch ww : Int32) (bD : Nat) (dp : Int32) (w : Int32) : kM (S := Unit) l yX7_told wsX7_told ({ frames := 0, cells := 0, slots := 0, locals := 0 }) D (kT cI cL cB cZ cT) [.ref h0, .int w] [(h0, .inr (7, [.ref aS, .ref aA, .ref aU, .ref aX, .ref aW, .int pl, .int np, .int li, .int sw, .int lst, .long ad])), (aA, .inr (0, [.int sA, .long zA, .int sM, .long zM, .int vO])), (aU, .inr (6, [.ref bT, .ref aD, .int ch, .int ww])), (aD, .inr (1, [.ref bD, .int dp]))] sz eL (fun _ _ => True) (fun _ => [(h0, .inr (7, [.ref aS, .ref aA, .ref aU, .ref aX, .ref aW, .int pl, .int np, .int li, .int sw, .int lst, .long ad])), (aA, .inr (0, [.int sA, .long zA, .int sM, .long zM, .int vO])), (aU, .inr (6, [.ref bT, .ref aD, .int ch, .int ww])), (aD, .inr (1, [.ref bD, .int dp]))]) 0 0 := by
  refine kStart (cc := cX7_told) (maxL := 2) (ret := (some .long)) (own := RX7) (by decide) rfl rfl (Nat.le_of_ble_eq_true rfl) ?_
  intro p e s m args below meth c A ls hx hb hr hml hown hts hlocks hnm hsz hA hG hP hD hS hl
  have hK := hG.1
  have hl : lv_has ls 2 [(0, .ref h0), (1, .int w)] := hl
  refine lv_iload_n hx hb dX7_told_0 rfl (lv_at hl 1 rfl) ?_
  rcases ksw_0_9 w with hsw | rfl | rfl | rfl | rfl | rfl | rfl | rfl | rfl | rfl | rfl
  · refine lv_tableOut (tgt := 145) hx hb dX7_told_1 hsw (by decide) ?_
    refine lv_ldc2 (v := (-1)) hx hb hown (hts (.constantLong RX7 61 (-1)) (List.mem_of_getElem? (i := 14) rfl)) dX7_told_145 ?_
    refine kLret (u := ()) hx hb hr hlocks hS dX7_told_148 ?_ (hP.sub [0, 1, 2, 3] rfl) (hD.sub [0, 1, 2, 3] (by decide) rfl)
    exact trivial
  · refine lv_tableIn (tgt := 56) (off := 55) hx hb dX7_told_1 (by decide) (by decide) (by decide) (by decide) ?_
    refine lv_aload_n hx hb dX7_told_56 rfl (lv_at hl 0 rfl) ?_
    refine va_get (D := D) (ci := 7) (v := .ref aA) (C := RX7) (T := TX7) (N := 11) hx hb hts iX7_told_X7 hown hK hP 0 rfl rfl 1 (by decide) (hts (.fieldLink RX7 19 "TapeCalculator" "arithmetic" "LTapeCalculator$Arithmetic;") (List.mem_of_getElem? (i := 1) rfl)) (fun _ h9 => h9) rfl dX7_told_57 ?_
    refine va_get (D := D) (ci := 0) (v := .int sA) (C := RX0) (T := TX0) (N := 5) hx hb hts iX7_told_X0 hown hK hP 1 rfl rfl 0 (by decide) (hts (.fieldLink RX7 63 "TapeCalculator$Arithmetic" "accSign" "I") (List.mem_of_getElem? (i := 2) rfl)) (fun _ h9 => h9) rfl dX7_told_60 ?_
    refine lv_i2l hx hb dX7_told_63 rfl ?_
    refine kLret (u := ()) hx hb hr hlocks hS dX7_told_64 ?_ (hP.sub [0, 1, 2, 3] rfl) (hD.sub [0, 1, 2, 3] (by decide) rfl)
    exact trivial
  · refine lv_tableIn (tgt := 65) (off := 64) hx hb dX7_told_1 (by decide) (by decide) (by decide) (by decide) ?_
    refine lv_aload_n hx hb dX7_told_65 rfl (lv_at hl 0 rfl) ?_
    refine va_get (D := D) (ci := 7) (v := .ref aA) (C := RX7) (T := TX7) (N := 11) hx hb hts iX7_told_X7 hown hK hP 0 rfl rfl 1 (by decide) (hts (.fieldLink RX7 19 "TapeCalculator" "arithmetic" "LTapeCalculator$Arithmetic;") (List.mem_of_getElem? (i := 1) rfl)) (fun _ h9 => h9) rfl dX7_told_66 ?_
    refine va_get (D := D) (ci := 0) (v := .long zA) (C := RX0) (T := TX0) (N := 5) hx hb hts iX7_told_X0 hown hK hP 1 rfl rfl 1 (by decide) (hts (.fieldLink RX7 67 "TapeCalculator$Arithmetic" "accSize" "J") (List.mem_of_getElem? (i := 3) rfl)) (fun _ h9 => h9) rfl dX7_told_69 ?_
    refine kLret (u := ()) hx hb hr hlocks hS dX7_told_72 ?_ (hP.sub [0, 1, 2, 3] rfl) (hD.sub [0, 1, 2, 3] (by decide) rfl)
    exact trivial
  · refine lv_tableIn (tgt := 73) (off := 72) hx hb dX7_told_1 (by decide) (by decide) (by decide) (by decide) ?_
    refine lv_aload_n hx hb dX7_told_73 rfl (lv_at hl 0 rfl) ?_
    refine va_get (D := D) (ci := 7) (v := .ref aA) (C := RX7) (T := TX7) (N := 11) hx hb hts iX7_told_X7 hown hK hP 0 rfl rfl 1 (by decide) (hts (.fieldLink RX7 19 "TapeCalculator" "arithmetic" "LTapeCalculator$Arithmetic;") (List.mem_of_getElem? (i := 1) rfl)) (fun _ h9 => h9) rfl dX7_told_74 ?_
    refine va_get (D := D) (ci := 0) (v := .int sM) (C := RX0) (T := TX0) (N := 5) hx hb hts iX7_told_X0 hown hK hP 1 rfl rfl 2 (by decide) (hts (.fieldLink RX7 71 "TapeCalculator$Arithmetic" "mqSign" "I") (List.mem_of_getElem? (i := 4) rfl)) (fun _ h9 => h9) rfl dX7_told_77 ?_
    refine lv_i2l hx hb dX7_told_80 rfl ?_
    refine kLret (u := ()) hx hb hr hlocks hS dX7_told_81 ?_ (hP.sub [0, 1, 2, 3] rfl) (hD.sub [0, 1, 2, 3] (by decide) rfl)
    exact trivial
  · refine lv_tableIn (tgt := 82) (off := 81) hx hb dX7_told_1 (by decide) (by decide) (by decide) (by decide) ?_
    refine lv_aload_n hx hb dX7_told_82 rfl (lv_at hl 0 rfl) ?_
    refine va_get (D := D) (ci := 7) (v := .ref aA) (C := RX7) (T := TX7) (N := 11) hx hb hts iX7_told_X7 hown hK hP 0 rfl rfl 1 (by decide) (hts (.fieldLink RX7 19 "TapeCalculator" "arithmetic" "LTapeCalculator$Arithmetic;") (List.mem_of_getElem? (i := 1) rfl)) (fun _ h9 => h9) rfl dX7_told_83 ?_
    refine va_get (D := D) (ci := 0) (v := .long zM) (C := RX0) (T := TX0) (N := 5) hx hb hts iX7_told_X0 hown hK hP 1 rfl rfl 3 (by decide) (hts (.fieldLink RX7 74 "TapeCalculator$Arithmetic" "mqSize" "J") (List.mem_of_getElem? (i := 5) rfl)) (fun _ h9 => h9) rfl dX7_told_86 ?_
    refine kLret (u := ()) hx hb hr hlocks hS dX7_told_89 ?_ (hP.sub [0, 1, 2, 3] rfl) (hD.sub [0, 1, 2, 3] (by decide) rfl)
    exact trivial
  · refine lv_tableIn (tgt := 90) (off := 89) hx hb dX7_told_1 (by decide) (by decide) (by decide) (by decide) ?_
    refine lv_aload_n hx hb dX7_told_90 rfl (lv_at hl 0 rfl) ?_
    refine va_get (D := D) (ci := 7) (v := .ref aA) (C := RX7) (T := TX7) (N := 11) hx hb hts iX7_told_X7 hown hK hP 0 rfl rfl 1 (by decide) (hts (.fieldLink RX7 19 "TapeCalculator" "arithmetic" "LTapeCalculator$Arithmetic;") (List.mem_of_getElem? (i := 1) rfl)) (fun _ h9 => h9) rfl dX7_told_91 ?_
    refine va_get (D := D) (ci := 0) (v := .int vO) (C := RX0) (T := TX0) (N := 5) hx hb hts iX7_told_X0 hown hK hP 1 rfl rfl 4 (by decide) (hts (.fieldLink RX7 77 "TapeCalculator$Arithmetic" "over" "Z") (List.mem_of_getElem? (i := 6) rfl)) (fun _ h9 => h9) rfl dX7_told_94 ?_
    refine lv_if_eq (tgt := 104) hx hb dX7_told_97 (by decide) (fun c_97_0 => ?_) (fun c_97_0 => ?_)
    · have t_97_0 := c_97_0
      try simp only [kb_eq0, kb_ne0, lg_cmp_lt, lg_cmp_le, lg_cmp_gt, lg_cmp_ge, lg_cmp_eq] at t_97_0
      try simp only [Int32.lt_iff_toInt_lt, Int32.le_iff_toInt_le, ← Int32.toInt_inj, Int64.lt_iff_toInt_lt, Int64.le_iff_toInt_le, ← Int64.toInt_inj, Int32.toInt_toInt64, Int32.reduceToInt, Int64.reduceToInt] at t_97_0
      refine lv_lconst (v := 0) hx hb dX7_told_104 (by decide) ?_
      refine kLret (u := ()) hx hb hr hlocks hS dX7_told_105 ?_ (hP.sub [0, 1, 2, 3] rfl) (hD.sub [0, 1, 2, 3] (by decide) rfl)
      exact trivial
    · have t_97_0 := c_97_0
      try simp only [kb_eq0, kb_ne0, lg_cmp_lt, lg_cmp_le, lg_cmp_gt, lg_cmp_ge, lg_cmp_eq] at t_97_0
      try simp only [Int32.lt_iff_toInt_lt, Int32.le_iff_toInt_le, ← Int32.toInt_inj, Int64.lt_iff_toInt_lt, Int64.le_iff_toInt_le, ← Int64.toInt_inj, Int32.toInt_toInt64, Int32.reduceToInt, Int64.reduceToInt] at t_97_0
      refine lv_lconst (v := 1) hx hb dX7_told_100 (by decide) ?_
      refine lv_goto (tgt := 105) hx hb dX7_told_101 (by decide) ?_
      refine kLret (u := ()) hx hb hr hlocks hS dX7_told_105 ?_ (hP.sub [0, 1, 2, 3] rfl) (hD.sub [0, 1, 2, 3] (by decide) rfl)
      exact trivial
  · refine lv_tableIn (tgt := 106) (off := 105) hx hb dX7_told_1 (by decide) (by decide) (by decide) (by decide) ?_
    refine lv_aload_n hx hb dX7_told_106 rfl (lv_at hl 0 rfl) ?_
    refine va_get (D := D) (ci := 7) (v := .int pl) (C := RX7) (T := TX7) (N := 11) hx hb hts iX7_told_X7 hown hK hP 0 rfl rfl 5 (by decide) (hts (.fieldLink RX7 81 "TapeCalculator" "place" "I") (List.mem_of_getElem? (i := 7) rfl)) (fun _ h9 => h9) rfl dX7_told_107 ?_
    refine lv_i2l hx hb dX7_told_110 rfl ?_
    refine kLret (u := ()) hx hb hr hlocks hS dX7_told_111 ?_ (hP.sub [0, 1, 2, 3] rfl) (hD.sub [0, 1, 2, 3] (by decide) rfl)
    exact trivial
  · refine lv_tableIn (tgt := 112) (off := 111) hx hb dX7_told_1 (by decide) (by decide) (by decide) (by decide) ?_
    refine lv_aload_n hx hb dX7_told_112 rfl (lv_at hl 0 rfl) ?_
    refine va_get (D := D) (ci := 7) (v := .int li) (C := RX7) (T := TX7) (N := 11) hx hb hts iX7_told_X7 hown hK hP 0 rfl rfl 7 (by decide) (hts (.fieldLink RX7 84 "TapeCalculator" "lights" "I") (List.mem_of_getElem? (i := 8) rfl)) (fun _ h9 => h9) rfl dX7_told_113 ?_
    refine lv_i2l hx hb dX7_told_116 rfl ?_
    refine kLret (u := ()) hx hb hr hlocks hS dX7_told_117 ?_ (hP.sub [0, 1, 2, 3] rfl) (hD.sub [0, 1, 2, 3] (by decide) rfl)
    exact trivial
  · refine lv_tableIn (tgt := 118) (off := 117) hx hb dX7_told_1 (by decide) (by decide) (by decide) (by decide) ?_
    refine lv_aload_n hx hb dX7_told_118 rfl (lv_at hl 0 rfl) ?_
    refine va_get (D := D) (ci := 7) (v := .ref aU) (C := RX7) (T := TX7) (N := 11) hx hb hts iX7_told_X7 hown hK hP 0 rfl rfl 2 (by decide) (hts (.fieldLink RX7 26 "TapeCalculator" "units" "LTapeCalculator$Units;") (List.mem_of_getElem? (i := 9) rfl)) (fun _ h9 => h9) rfl dX7_told_119 ?_
    refine va_get (D := D) (ci := 6) (v := .ref aD) (C := RX6) (T := TX6) (N := 4) hx hb hts iX7_told_X6 hown hK hP 2 rfl rfl 1 (by decide) (hts (.fieldLink RX7 87 "TapeCalculator$Units" "drum" "LTapeCalculator$Drum;") (List.mem_of_getElem? (i := 10) rfl)) (fun _ h9 => h9) rfl dX7_told_122 ?_
    refine va_get (D := D) (ci := 1) (v := .int dp) (C := RX1) (T := TX1) (N := 2) hx hb hts iX7_told_X1 hown hK hP 3 rfl rfl 1 (by decide) (hts (.fieldLink RX7 91 "TapeCalculator$Drum" "place" "I") (List.mem_of_getElem? (i := 11) rfl)) (fun _ h9 => h9) rfl dX7_told_125 ?_
    refine lv_i2l hx hb dX7_told_128 rfl ?_
    refine kLret (u := ()) hx hb hr hlocks hS dX7_told_129 ?_ (hP.sub [0, 1, 2, 3] rfl) (hD.sub [0, 1, 2, 3] (by decide) rfl)
    exact trivial
  · refine lv_tableIn (tgt := 130) (off := 129) hx hb dX7_told_1 (by decide) (by decide) (by decide) (by decide) ?_
    refine lv_aload_n hx hb dX7_told_130 rfl (lv_at hl 0 rfl) ?_
    refine va_get (D := D) (ci := 7) (v := .int lst) (C := RX7) (T := TX7) (N := 11) hx hb hts iX7_told_X7 hown hK hP 0 rfl rfl 9 (by decide) (hts (.fieldLink RX7 94 "TapeCalculator" "latestStop" "I") (List.mem_of_getElem? (i := 12) rfl)) (fun _ h9 => h9) rfl dX7_told_131 ?_
    refine lv_i2l hx hb dX7_told_134 rfl ?_
    refine kLret (u := ()) hx hb hr hlocks hS dX7_told_135 ?_ (hP.sub [0, 1, 2, 3] rfl) (hD.sub [0, 1, 2, 3] (by decide) rfl)
    exact trivial
  · refine lv_tableIn (tgt := 136) (off := 135) hx hb dX7_told_1 (by decide) (by decide) (by decide) (by decide) ?_
    refine lv_aload_n hx hb dX7_told_136 rfl (lv_at hl 0 rfl) ?_
    refine va_get (D := D) (ci := 7) (v := .ref aU) (C := RX7) (T := TX7) (N := 11) hx hb hts iX7_told_X7 hown hK hP 0 rfl rfl 2 (by decide) (hts (.fieldLink RX7 26 "TapeCalculator" "units" "LTapeCalculator$Units;") (List.mem_of_getElem? (i := 9) rfl)) (fun _ h9 => h9) rfl dX7_told_137 ?_
    refine va_get (D := D) (ci := 6) (v := .int ch) (C := RX6) (T := TX6) (N := 4) hx hb hts iX7_told_X6 hown hK hP 2 rfl rfl 2 (by decide) (hts (.fieldLink RX7 97 "TapeCalculator$Units" "chosen" "I") (List.mem_of_getElem? (i := 13) rfl)) (fun _ h9 => h9) rfl dX7_told_140 ?_
    refine lv_i2l hx hb dX7_told_143 rfl ?_
    refine kLret (u := ()) hx hb hr hlocks hS dX7_told_144 ?_ (hP.sub [0, 1, 2, 3] rfl) (hD.sub [0, 1, 2, 3] (by decide) rfl)
    exact trivial
set_option maxRecDepth 100000 in
theorem iX7_set_X7 : ∀ w ∈ wsX70, w ∈ wsX7_set := fun w h => (goodIn_r (big := wsX7_set) wsX70 [16, 17, 18, 19, 20, 21, 22, 23, 24, 25, 26] rfl (by decide +kernel) w h).1
set_option maxRecDepth 100000 in
theorem iX7_set_X0 : ∀ w ∈ wsX00, w ∈ wsX7_set := fun w h => (goodIn_r (big := wsX7_set) wsX00 [27, 28, 29, 30, 31] rfl (by decide +kernel) w h).1
set_option maxRecDepth 100000 in
set_option maxHeartbeats 4000000 in
theorem g_set (l : Launch) (D : va_G) (cI cL cB cZ cT : ClassId) (sz : Nat) (h0 aS aA aU aX aW : Nat) (pl np li sw lst : Int32) (ad : Int64) (sA : Int32) (zA : Int64) (sM : Int32) (zM : Int64) (vO : Int32) (w : Int32) (v : Int64) : kM (S := (Int32 × Int64 × Int32 × Int64 × Int32 × Int32)) l yX7_set wsX7_set ({ frames := 1, cells := 0, slots := 0, locals := 20 }) D (kT cI cL cB cZ cT) [.ref h0, .int w, .long v] [(h0, .inr (7, [.ref aS, .ref aA, .ref aU, .ref aX, .ref aW, .int pl, .int np, .int li, .int sw, .int lst, .long ad])), (aA, .inr (0, [.int sA, .long zA, .int sM, .long zM, .int vO]))] sz eI (fun r _ => r = (kif (0 ≤ v.toInt ∧ v.toInt ≤ (kMost w).toInt) 1 (-1))) (fun u => [(h0, .inr (7, [.ref aS, .ref aA, .ref aU, .ref aX, .ref aW, .int u.2.2.2.2.2, .int np, .int li, .int sw, .int lst, .long ad])), (aA, .inr (0, [.int u.1, .long u.2.1, .int u.2.2.1, .long u.2.2.2.1, .int u.2.2.2.2.1]))]) 0 0 := by
  refine kStart (cc := cX7_set) (maxL := 4) (ret := (some .int)) (own := RX7) (by decide) rfl rfl (Nat.le_of_ble_eq_true rfl) ?_
  intro p e s m args below meth c A ls hx hb hr hml hown hts hlocks hnm hsz hA hG hP hD hS hl
  have hK := hG.1
  have hl : lv_has ls 4 [(0, .ref h0), (1, .int w), (2, .long v)] := hl
  refine lv_lload_n hx hb dX7_set_0 rfl (lv_at hl 2 rfl) ?_
  refine lv_lconst (v := 0) hx hb dX7_set_1 (by decide) ?_
  refine W.lcmp hx hb dX7_set_2 ?_
  refine lv_if_lt (tgt := 15) hx hb dX7_set_3 (by decide) (fun c_3_0 => ?_) (fun c_3_0 => ?_)
  · have t_3_0 := c_3_0
    try simp only [kb_eq0, kb_ne0, lg_cmp_lt, lg_cmp_le, lg_cmp_gt, lg_cmp_ge, lg_cmp_eq] at t_3_0
    try simp only [Int32.lt_iff_toInt_lt, Int32.le_iff_toInt_le, ← Int32.toInt_inj, Int64.lt_iff_toInt_lt, Int64.le_iff_toInt_le, ← Int64.toInt_inj, Int32.toInt_toInt64, Int32.reduceToInt, Int64.reduceToInt] at t_3_0
    refine lv_iconst (v := (-1)) hx hb dX7_set_15 (by decide) ?_
    refine kIret (u := (sA, zA, sM, zM, vO, pl)) hx hb hr rfl hlocks hS dX7_set_16 ?_ (hP.sub [0, 1] rfl) (hD.sub [0, 1] (by decide) rfl)
    first
      | exact (kif_t (by omega)).symm
      | exact (kif_f (by omega)).symm
  · have t_3_0 := c_3_0
    try simp only [kb_eq0, kb_ne0, lg_cmp_lt, lg_cmp_le, lg_cmp_gt, lg_cmp_ge, lg_cmp_eq] at t_3_0
    try simp only [Int32.lt_iff_toInt_lt, Int32.le_iff_toInt_le, ← Int32.toInt_inj, Int64.lt_iff_toInt_lt, Int64.le_iff_toInt_le, ← Int64.toInt_inj, Int32.toInt_toInt64, Int32.reduceToInt, Int64.reduceToInt] at t_3_0
    refine lv_lload_n hx hb dX7_set_6 rfl (lv_at hl 2 rfl) ?_
    refine lv_iload_n hx hb dX7_set_7 rfl (lv_at hl 1 rfl) ?_
    refine kCallL (wr := [(h0, .inr (7, [.ref aS, .ref aA, .ref aU, .ref aX, .ref aW, .int pl, .int np, .int li, .int sw, .int lst, .long ad])), (aA, .inr (0, [.int sA, .long zA, .int sM, .long zM, .int vO]))]) (va_runS (As := [.int w]) (rest := [.long v]) ⟨hx, hb, hml, hown, hts⟩ (g_most l D cI cL cB cZ cT _ w) (va_cwS 1 hts gX7_set_X7_mostOfRegister rfl rfl rfl (by decide +kernel) ⟨Nat.le_of_ble_eq_true rfl, Nat.le_of_ble_eq_true rfl⟩) (kPreS hG hP hD [] rfl (by decide)) rfl rfl hl.1 rfl (lv_room (Nat.le_of_ble_eq_true rfl)) dX7_set_8 ⟨Nat.le_of_ble_eq_true rfl, Nat.le_of_ble_eq_true rfl⟩) hA hP hD hS [] [0, 1] rfl rfl (by decide) (by decide) (fun r_2 u_r_2 H locs wr_2 hP hD hS => ?_)
    have hP : va_P D vwCl [(h0, .inr (7, [.ref aS, .ref aA, .ref aU, .ref aX, .ref aW, .int pl, .int np, .int li, .int sw, .int lst, .long ad])), (aA, .inr (0, [.int sA, .long zA, .int sM, .long zM, .int vO]))] H := hP
    have hD : va_D A [(h0, .inr (7, [.ref aS, .ref aA, .ref aU, .ref aX, .ref aW, .int pl, .int np, .int li, .int sw, .int lst, .long ad])), (aA, .inr (0, [.int sA, .long zA, .int sM, .long zM, .int vO]))] := hD
    try dsimp only at wr_2
    subst wr_2
    refine W.lcmp hx hb dX7_set_11 ?_
    refine lv_if_le (tgt := 17) hx hb dX7_set_12 (by decide) (fun c_12_2 => ?_) (fun c_12_2 => ?_)
    · have t_12_2 := c_12_2
      try simp only [kb_eq0, kb_ne0, lg_cmp_lt, lg_cmp_le, lg_cmp_gt, lg_cmp_ge, lg_cmp_eq] at t_12_2
      try simp only [Int32.lt_iff_toInt_lt, Int32.le_iff_toInt_le, ← Int32.toInt_inj, Int64.lt_iff_toInt_lt, Int64.le_iff_toInt_le, ← Int64.toInt_inj, Int32.toInt_toInt64, Int32.reduceToInt, Int64.reduceToInt] at t_12_2
      refine lv_iload_n hx hb dX7_set_17 rfl (lv_at hl 1 rfl) ?_
      rcases ksw_0_4 w with hsw | rfl | rfl | rfl | rfl | rfl
      · refine lv_tableOut (tgt := 119) hx hb dX7_set_18 hsw (by decide) ?_
        refine lv_aload_n hx hb dX7_set_119 rfl (lv_at hl 0 rfl) ?_
        refine lv_lload_n hx hb dX7_set_120 rfl (lv_at hl 2 rfl) ?_
        refine lv_l2i hx hb dX7_set_121 rfl ?_
        refine va_put (D := D) (ci := 7) (v := .int v.toInt32) (ty := .int) (C := RX7) (T := TX7) (N := 11) hx hb hts iX7_set_X7 tyX7 tyX7_ok nmX7 hown hK hP hD hS 0 rfl rfl 5 (by decide) (hts (.fieldLink RX7 81 "TapeCalculator" "place" "I") (List.mem_of_getElem? (i := 7) rfl)) (fun _ h9 => h9) rfl (by decide +kernel) rfl rfl (Nat.le_of_ble_eq_true rfl) dX7_set_122 (fun H locs hP hD hS => ?_)
        have hP : va_P D vwCl [(h0, .inr (7, [.ref aS, .ref aA, .ref aU, .ref aX, .ref aW, .int v.toInt32, .int np, .int li, .int sw, .int lst, .long ad])), (aA, .inr (0, [.int sA, .long zA, .int sM, .long zM, .int vO]))] H := hP
        have hD : va_D A [(h0, .inr (7, [.ref aS, .ref aA, .ref aU, .ref aX, .ref aW, .int v.toInt32, .int np, .int li, .int sw, .int lst, .long ad])), (aA, .inr (0, [.int sA, .long zA, .int sM, .long zM, .int vO]))] := hD
        refine lv_iconst (v := 1) hx hb dX7_set_125 (by decide) ?_
        refine kIret (u := (sA, zA, sM, zM, vO, v.toInt32)) hx hb hr rfl hlocks hS dX7_set_126 ?_ (hP.sub [0, 1] rfl) (hD.sub [0, 1] (by decide) rfl)
        first
          | exact (kif_t (by omega)).symm
          | exact (kif_f (by omega)).symm
      · refine lv_tableIn (tgt := 52) (off := 34) hx hb dX7_set_18 (by decide) (by decide) (by decide) (by decide) ?_
        refine lv_aload_n hx hb dX7_set_52 rfl (lv_at hl 0 rfl) ?_
        refine va_get (D := D) (ci := 7) (v := .ref aA) (C := RX7) (T := TX7) (N := 11) hx hb hts iX7_set_X7 hown hK hP 0 rfl rfl 1 (by decide) (hts (.fieldLink RX7 19 "TapeCalculator" "arithmetic" "LTapeCalculator$Arithmetic;") (List.mem_of_getElem? (i := 1) rfl)) (fun _ h9 => h9) rfl dX7_set_53 ?_
        refine lv_lload_n hx hb dX7_set_56 rfl (lv_at hl 2 rfl) ?_
        refine lv_l2i hx hb dX7_set_57 rfl ?_
        refine va_put (D := D) (ci := 0) (v := .int v.toInt32) (ty := .int) (C := RX0) (T := TX0) (N := 5) hx hb hts iX7_set_X0 tyX0 tyX0_ok nmX0 hown hK hP hD hS 1 rfl rfl 0 (by decide) (hts (.fieldLink RX7 63 "TapeCalculator$Arithmetic" "accSign" "I") (List.mem_of_getElem? (i := 2) rfl)) (fun _ h9 => h9) rfl (by decide +kernel) rfl rfl (Nat.le_of_ble_eq_true rfl) dX7_set_58 (fun H locs hP hD hS => ?_)
        have hP : va_P D vwCl [(h0, .inr (7, [.ref aS, .ref aA, .ref aU, .ref aX, .ref aW, .int pl, .int np, .int li, .int sw, .int lst, .long ad])), (aA, .inr (0, [.int v.toInt32, .long zA, .int sM, .long zM, .int vO]))] H := hP
        have hD : va_D A [(h0, .inr (7, [.ref aS, .ref aA, .ref aU, .ref aX, .ref aW, .int pl, .int np, .int li, .int sw, .int lst, .long ad])), (aA, .inr (0, [.int v.toInt32, .long zA, .int sM, .long zM, .int vO]))] := hD
        refine lv_goto (tgt := 125) hx hb dX7_set_61 (by decide) ?_
        refine lv_iconst (v := 1) hx hb dX7_set_125 (by decide) ?_
        refine kIret (u := (v.toInt32, zA, sM, zM, vO, pl)) hx hb hr rfl hlocks hS dX7_set_126 ?_ (hP.sub [0, 1] rfl) (hD.sub [0, 1] (by decide) rfl)
        first
          | exact (kif_t (by omega)).symm
          | exact (kif_f (by omega)).symm
      · refine lv_tableIn (tgt := 64) (off := 46) hx hb dX7_set_18 (by decide) (by decide) (by decide) (by decide) ?_
        refine lv_aload_n hx hb dX7_set_64 rfl (lv_at hl 0 rfl) ?_
        refine va_get (D := D) (ci := 7) (v := .ref aA) (C := RX7) (T := TX7) (N := 11) hx hb hts iX7_set_X7 hown hK hP 0 rfl rfl 1 (by decide) (hts (.fieldLink RX7 19 "TapeCalculator" "arithmetic" "LTapeCalculator$Arithmetic;") (List.mem_of_getElem? (i := 1) rfl)) (fun _ h9 => h9) rfl dX7_set_65 ?_
        refine lv_lload_n hx hb dX7_set_68 rfl (lv_at hl 2 rfl) ?_
        refine va_put (D := D) (ci := 0) (v := .long v) (ty := .long) (C := RX0) (T := TX0) (N := 5) hx hb hts iX7_set_X0 tyX0 tyX0_ok nmX0 hown hK hP hD hS 1 rfl rfl 1 (by decide) (hts (.fieldLink RX7 67 "TapeCalculator$Arithmetic" "accSize" "J") (List.mem_of_getElem? (i := 3) rfl)) (fun _ h9 => h9) rfl (by decide +kernel) rfl rfl (Nat.le_of_ble_eq_true rfl) dX7_set_69 (fun H locs hP hD hS => ?_)
        have hP : va_P D vwCl [(h0, .inr (7, [.ref aS, .ref aA, .ref aU, .ref aX, .ref aW, .int pl, .int np, .int li, .int sw, .int lst, .long ad])), (aA, .inr (0, [.int sA, .long v, .int sM, .long zM, .int vO]))] H := hP
        have hD : va_D A [(h0, .inr (7, [.ref aS, .ref aA, .ref aU, .ref aX, .ref aW, .int pl, .int np, .int li, .int sw, .int lst, .long ad])), (aA, .inr (0, [.int sA, .long v, .int sM, .long zM, .int vO]))] := hD
        refine lv_goto (tgt := 125) hx hb dX7_set_72 (by decide) ?_
        refine lv_iconst (v := 1) hx hb dX7_set_125 (by decide) ?_
        refine kIret (u := (sA, v, sM, zM, vO, pl)) hx hb hr rfl hlocks hS dX7_set_126 ?_ (hP.sub [0, 1] rfl) (hD.sub [0, 1] (by decide) rfl)
        first
          | exact (kif_t (by omega)).symm
          | exact (kif_f (by omega)).symm
      · refine lv_tableIn (tgt := 75) (off := 57) hx hb dX7_set_18 (by decide) (by decide) (by decide) (by decide) ?_
        refine lv_aload_n hx hb dX7_set_75 rfl (lv_at hl 0 rfl) ?_
        refine va_get (D := D) (ci := 7) (v := .ref aA) (C := RX7) (T := TX7) (N := 11) hx hb hts iX7_set_X7 hown hK hP 0 rfl rfl 1 (by decide) (hts (.fieldLink RX7 19 "TapeCalculator" "arithmetic" "LTapeCalculator$Arithmetic;") (List.mem_of_getElem? (i := 1) rfl)) (fun _ h9 => h9) rfl dX7_set_76 ?_
        refine lv_lload_n hx hb dX7_set_79 rfl (lv_at hl 2 rfl) ?_
        refine lv_l2i hx hb dX7_set_80 rfl ?_
        refine va_put (D := D) (ci := 0) (v := .int v.toInt32) (ty := .int) (C := RX0) (T := TX0) (N := 5) hx hb hts iX7_set_X0 tyX0 tyX0_ok nmX0 hown hK hP hD hS 1 rfl rfl 2 (by decide) (hts (.fieldLink RX7 71 "TapeCalculator$Arithmetic" "mqSign" "I") (List.mem_of_getElem? (i := 4) rfl)) (fun _ h9 => h9) rfl (by decide +kernel) rfl rfl (Nat.le_of_ble_eq_true rfl) dX7_set_81 (fun H locs hP hD hS => ?_)
        have hP : va_P D vwCl [(h0, .inr (7, [.ref aS, .ref aA, .ref aU, .ref aX, .ref aW, .int pl, .int np, .int li, .int sw, .int lst, .long ad])), (aA, .inr (0, [.int sA, .long zA, .int v.toInt32, .long zM, .int vO]))] H := hP
        have hD : va_D A [(h0, .inr (7, [.ref aS, .ref aA, .ref aU, .ref aX, .ref aW, .int pl, .int np, .int li, .int sw, .int lst, .long ad])), (aA, .inr (0, [.int sA, .long zA, .int v.toInt32, .long zM, .int vO]))] := hD
        refine lv_goto (tgt := 125) hx hb dX7_set_84 (by decide) ?_
        refine lv_iconst (v := 1) hx hb dX7_set_125 (by decide) ?_
        refine kIret (u := (sA, zA, v.toInt32, zM, vO, pl)) hx hb hr rfl hlocks hS dX7_set_126 ?_ (hP.sub [0, 1] rfl) (hD.sub [0, 1] (by decide) rfl)
        first
          | exact (kif_t (by omega)).symm
          | exact (kif_f (by omega)).symm
      · refine lv_tableIn (tgt := 87) (off := 69) hx hb dX7_set_18 (by decide) (by decide) (by decide) (by decide) ?_
        refine lv_aload_n hx hb dX7_set_87 rfl (lv_at hl 0 rfl) ?_
        refine va_get (D := D) (ci := 7) (v := .ref aA) (C := RX7) (T := TX7) (N := 11) hx hb hts iX7_set_X7 hown hK hP 0 rfl rfl 1 (by decide) (hts (.fieldLink RX7 19 "TapeCalculator" "arithmetic" "LTapeCalculator$Arithmetic;") (List.mem_of_getElem? (i := 1) rfl)) (fun _ h9 => h9) rfl dX7_set_88 ?_
        refine lv_lload_n hx hb dX7_set_91 rfl (lv_at hl 2 rfl) ?_
        refine va_put (D := D) (ci := 0) (v := .long v) (ty := .long) (C := RX0) (T := TX0) (N := 5) hx hb hts iX7_set_X0 tyX0 tyX0_ok nmX0 hown hK hP hD hS 1 rfl rfl 3 (by decide) (hts (.fieldLink RX7 74 "TapeCalculator$Arithmetic" "mqSize" "J") (List.mem_of_getElem? (i := 5) rfl)) (fun _ h9 => h9) rfl (by decide +kernel) rfl rfl (Nat.le_of_ble_eq_true rfl) dX7_set_92 (fun H locs hP hD hS => ?_)
        have hP : va_P D vwCl [(h0, .inr (7, [.ref aS, .ref aA, .ref aU, .ref aX, .ref aW, .int pl, .int np, .int li, .int sw, .int lst, .long ad])), (aA, .inr (0, [.int sA, .long zA, .int sM, .long v, .int vO]))] H := hP
        have hD : va_D A [(h0, .inr (7, [.ref aS, .ref aA, .ref aU, .ref aX, .ref aW, .int pl, .int np, .int li, .int sw, .int lst, .long ad])), (aA, .inr (0, [.int sA, .long zA, .int sM, .long v, .int vO]))] := hD
        refine lv_goto (tgt := 125) hx hb dX7_set_95 (by decide) ?_
        refine lv_iconst (v := 1) hx hb dX7_set_125 (by decide) ?_
        refine kIret (u := (sA, zA, sM, v, vO, pl)) hx hb hr rfl hlocks hS dX7_set_126 ?_ (hP.sub [0, 1] rfl) (hD.sub [0, 1] (by decide) rfl)
        first
          | exact (kif_t (by omega)).symm
          | exact (kif_f (by omega)).symm
      · refine lv_tableIn (tgt := 98) (off := 80) hx hb dX7_set_18 (by decide) (by decide) (by decide) (by decide) ?_
        refine lv_aload_n hx hb dX7_set_98 rfl (lv_at hl 0 rfl) ?_
        refine va_get (D := D) (ci := 7) (v := .ref aA) (C := RX7) (T := TX7) (N := 11) hx hb hts iX7_set_X7 hown hK hP 0 rfl rfl 1 (by decide) (hts (.fieldLink RX7 19 "TapeCalculator" "arithmetic" "LTapeCalculator$Arithmetic;") (List.mem_of_getElem? (i := 1) rfl)) (fun _ h9 => h9) rfl dX7_set_99 ?_
        refine lv_lload_n hx hb dX7_set_102 rfl (lv_at hl 2 rfl) ?_
        refine lv_lconst (v := 1) hx hb dX7_set_103 (by decide) ?_
        refine W.lcmp hx hb dX7_set_104 ?_
        refine lv_if_ne (tgt := 112) hx hb dX7_set_105 (by decide) (fun c_105_3 => ?_) (fun c_105_3 => ?_)
        · have t_105_3 := c_105_3
          try simp only [kb_eq0, kb_ne0, lg_cmp_lt, lg_cmp_le, lg_cmp_gt, lg_cmp_ge, lg_cmp_eq] at t_105_3
          try simp only [Int32.lt_iff_toInt_lt, Int32.le_iff_toInt_le, ← Int32.toInt_inj, Int64.lt_iff_toInt_lt, Int64.le_iff_toInt_le, ← Int64.toInt_inj, Int32.toInt_toInt64, Int32.reduceToInt, Int64.reduceToInt] at t_105_3
          refine lv_iconst (v := 0) hx hb dX7_set_112 (by decide) ?_
          refine va_put (D := D) (ci := 0) (v := .int 0) (ty := .boolean) (C := RX0) (T := TX0) (N := 5) hx hb hts iX7_set_X0 tyX0 tyX0_ok nmX0 hown hK hP hD hS 1 rfl rfl 4 (by decide) (hts (.fieldLink RX7 77 "TapeCalculator$Arithmetic" "over" "Z") (List.mem_of_getElem? (i := 6) rfl)) (fun _ h9 => h9) rfl (by decide +kernel) rfl rfl (Nat.le_of_ble_eq_true rfl) dX7_set_113 (fun H locs hP hD hS => ?_)
          have hP : va_P D vwCl [(h0, .inr (7, [.ref aS, .ref aA, .ref aU, .ref aX, .ref aW, .int pl, .int np, .int li, .int sw, .int lst, .long ad])), (aA, .inr (0, [.int sA, .long zA, .int sM, .long zM, .int 0]))] H := hP
          have hD : va_D A [(h0, .inr (7, [.ref aS, .ref aA, .ref aU, .ref aX, .ref aW, .int pl, .int np, .int li, .int sw, .int lst, .long ad])), (aA, .inr (0, [.int sA, .long zA, .int sM, .long zM, .int 0]))] := hD
          refine lv_goto (tgt := 125) hx hb dX7_set_116 (by decide) ?_
          refine lv_iconst (v := 1) hx hb dX7_set_125 (by decide) ?_
          refine kIret (u := (sA, zA, sM, zM, 0, pl)) hx hb hr rfl hlocks hS dX7_set_126 ?_ (hP.sub [0, 1] rfl) (hD.sub [0, 1] (by decide) rfl)
          first
            | exact (kif_t (by omega)).symm
            | exact (kif_f (by omega)).symm
        · have t_105_3 := c_105_3
          try simp only [kb_eq0, kb_ne0, lg_cmp_lt, lg_cmp_le, lg_cmp_gt, lg_cmp_ge, lg_cmp_eq] at t_105_3
          try simp only [Int32.lt_iff_toInt_lt, Int32.le_iff_toInt_le, ← Int32.toInt_inj, Int64.lt_iff_toInt_lt, Int64.le_iff_toInt_le, ← Int64.toInt_inj, Int32.toInt_toInt64, Int32.reduceToInt, Int64.reduceToInt] at t_105_3
          refine lv_iconst (v := 1) hx hb dX7_set_108 (by decide) ?_
          refine lv_goto (tgt := 113) hx hb dX7_set_109 (by decide) ?_
          refine va_put (D := D) (ci := 0) (v := .int 1) (ty := .boolean) (C := RX0) (T := TX0) (N := 5) hx hb hts iX7_set_X0 tyX0 tyX0_ok nmX0 hown hK hP hD hS 1 rfl rfl 4 (by decide) (hts (.fieldLink RX7 77 "TapeCalculator$Arithmetic" "over" "Z") (List.mem_of_getElem? (i := 6) rfl)) (fun _ h9 => h9) rfl (by decide +kernel) rfl rfl (Nat.le_of_ble_eq_true rfl) dX7_set_113 (fun H locs hP hD hS => ?_)
          have hP : va_P D vwCl [(h0, .inr (7, [.ref aS, .ref aA, .ref aU, .ref aX, .ref aW, .int pl, .int np, .int li, .int sw, .int lst, .long ad])), (aA, .inr (0, [.int sA, .long zA, .int sM, .long zM, .int 1]))] H := hP
          have hD : va_D A [(h0, .inr (7, [.ref aS, .ref aA, .ref aU, .ref aX, .ref aW, .int pl, .int np, .int li, .int sw, .int lst, .long ad])), (aA, .inr (0, [.int sA, .long zA, .int sM, .long zM, .int 1]))] := hD
          refine lv_goto (tgt := 125) hx hb dX7_set_116 (by decide) ?_
          refine lv_iconst (v := 1) hx hb dX7_set_125 (by decide) ?_
          refine kIret (u := (sA, zA, sM, zM, 1, pl)) hx hb hr rfl hlocks hS dX7_set_126 ?_ (hP.sub [0, 1] rfl) (hD.sub [0, 1] (by decide) rfl)
          first
            | exact (kif_t (by omega)).symm
            | exact (kif_f (by omega)).symm
    · have t_12_2 := c_12_2
      try simp only [kb_eq0, kb_ne0, lg_cmp_lt, lg_cmp_le, lg_cmp_gt, lg_cmp_ge, lg_cmp_eq] at t_12_2
      try simp only [Int32.lt_iff_toInt_lt, Int32.le_iff_toInt_le, ← Int32.toInt_inj, Int64.lt_iff_toInt_lt, Int64.le_iff_toInt_le, ← Int64.toInt_inj, Int32.toInt_toInt64, Int32.reduceToInt, Int64.reduceToInt] at t_12_2
      refine lv_iconst (v := (-1)) hx hb dX7_set_15 (by decide) ?_
      refine kIret (u := (sA, zA, sM, zM, vO, pl)) hx hb hr rfl hlocks hS dX7_set_16 ?_ (hP.sub [0, 1] rfl) (hD.sub [0, 1] (by decide) rfl)
      first
        | exact (kif_t (by omega)).symm
        | exact (kif_f (by omega)).symm
def kTrA (sw k : Int32) : Int32 := kif (1 ≤ k.toInt ∧ k.toInt ≤ 4) (kif ((sw &&& ((1 : Int32) <<< ((k - 1) &&& 31))) = 0) 0 1) (-1)
def kTrS (sw k z : Int32) : Int32 := kif (1 ≤ k.toInt ∧ k.toInt ≤ 4) (kif (z = 0) (sw &&& (((1 : Int32) <<< ((k - 1) &&& 31)) ^^^ (-1))) (sw ||| ((1 : Int32) <<< ((k - 1) &&& 31)))) sw
set_option maxRecDepth 100000 in
theorem iX7_turn_X7 : ∀ w ∈ wsX70, w ∈ wsX7_turn := fun w h => (goodIn_r (big := wsX7_turn) wsX70 [6, 7, 8, 9, 10, 11, 12, 13, 14, 15, 16] rfl (by decide +kernel) w h).1
set_option maxRecDepth 100000 in
set_option maxHeartbeats 4000000 in
theorem g_turn (l : Launch) (D : va_G) (cI cL cB cZ cT : ClassId) (sz : Nat) (h0 aS aA aU aX aW : Nat) (pl np li sw lst : Int32) (ad : Int64) (k z : Int32) : kM (S := Unit) l yX7_turn wsX7_turn ({ frames := 1, cells := 0, slots := 0, locals := 20 }) D (kT cI cL cB cZ cT) [.ref h0, .int k, .int z] [(h0, .inr (7, [.ref aS, .ref aA, .ref aU, .ref aX, .ref aW, .int pl, .int np, .int li, .int sw, .int lst, .long ad]))] sz eI (fun r _ => r = (kTrA sw k)) (fun _ => [(h0, .inr (7, [.ref aS, .ref aA, .ref aU, .ref aX, .ref aW, .int pl, .int np, .int li, .int (kTrS sw k z), .int lst, .long ad]))]) 0 0 := by
  refine kStart (cc := cX7_turn) (maxL := 5) (ret := (some .int)) (own := RX7) (by decide) rfl rfl (Nat.le_of_ble_eq_true rfl) ?_
  intro p e s m args below meth c A ls hx hb hr hml hown hts hlocks hnm hsz hA hG hP hD hS hl
  have hK := hG.1
  have hl : lv_has ls 5 [(0, .ref h0), (1, .int k), (2, .int z)] := hl
  refine lv_iload_n hx hb dX7_turn_0 rfl (lv_at hl 1 rfl) ?_
  refine lv_iconst (v := 1) hx hb dX7_turn_1 (by decide) ?_
  refine lv_icmp_lt (tgt := 10) hx hb dX7_turn_2 (by decide) (fun c_2_0 => ?_) (fun c_2_0 => ?_)
  · have t_2_0 := c_2_0
    try simp only [kb_eq0, kb_ne0, lg_cmp_lt, lg_cmp_le, lg_cmp_gt, lg_cmp_ge, lg_cmp_eq] at t_2_0
    try simp only [Int32.lt_iff_toInt_lt, Int32.le_iff_toInt_le, ← Int32.toInt_inj, Int64.lt_iff_toInt_lt, Int64.le_iff_toInt_le, ← Int64.toInt_inj, Int32.toInt_toInt64, Int32.reduceToInt, Int64.reduceToInt] at t_2_0
    refine lv_iconst (v := (-1)) hx hb dX7_turn_10 (by decide) ?_
    refine kIret (u := ()) hx hb hr rfl hlocks hS dX7_turn_11 ?_ (hP.sub [0] (by unfold kTrS; first | (rw [kif_f (show ¬ (1 ≤ k.toInt ∧ k.toInt ≤ 4) by omega)]; rfl) | (rw [kif_t (show 1 ≤ k.toInt ∧ k.toInt ≤ 4 by omega)]; first | (rw [kif_t (show z = 0 by assumption)]; rfl) | (rw [kif_f (show ¬ z = 0 by assumption)]; rfl)))) (hD.sub [0] (by decide) (by unfold kTrS; first | (rw [kif_f (show ¬ (1 ≤ k.toInt ∧ k.toInt ≤ 4) by omega)]; rfl) | (rw [kif_t (show 1 ≤ k.toInt ∧ k.toInt ≤ 4 by omega)]; first | (rw [kif_t (show z = 0 by assumption)]; rfl) | (rw [kif_f (show ¬ z = 0 by assumption)]; rfl))))
    unfold kTrA
    first | exact (kif_f (by omega)).symm | (refine Eq.symm ((kif_t (by omega)).trans ?_); first | exact kif_t (by assumption) | exact kif_f (by assumption))
  · have t_2_0 := c_2_0
    try simp only [kb_eq0, kb_ne0, lg_cmp_lt, lg_cmp_le, lg_cmp_gt, lg_cmp_ge, lg_cmp_eq] at t_2_0
    try simp only [Int32.lt_iff_toInt_lt, Int32.le_iff_toInt_le, ← Int32.toInt_inj, Int64.lt_iff_toInt_lt, Int64.le_iff_toInt_le, ← Int64.toInt_inj, Int32.toInt_toInt64, Int32.reduceToInt, Int64.reduceToInt] at t_2_0
    refine lv_iload_n hx hb dX7_turn_5 rfl (lv_at hl 1 rfl) ?_
    refine lv_iconst (v := 4) hx hb dX7_turn_6 (by decide) ?_
    refine lv_icmp_le (tgt := 12) hx hb dX7_turn_7 (by decide) (fun c_7_1 => ?_) (fun c_7_1 => ?_)
    · have t_7_1 := c_7_1
      try simp only [kb_eq0, kb_ne0, lg_cmp_lt, lg_cmp_le, lg_cmp_gt, lg_cmp_ge, lg_cmp_eq] at t_7_1
      try simp only [Int32.lt_iff_toInt_lt, Int32.le_iff_toInt_le, ← Int32.toInt_inj, Int64.lt_iff_toInt_lt, Int64.le_iff_toInt_le, ← Int64.toInt_inj, Int32.toInt_toInt64, Int32.reduceToInt, Int64.reduceToInt] at t_7_1
      refine lv_iload_n hx hb dX7_turn_12 rfl (lv_at hl 1 rfl) ?_
      refine kCallI (wr := [(h0, .inr (7, [.ref aS, .ref aA, .ref aU, .ref aX, .ref aW, .int pl, .int np, .int li, .int sw, .int lst, .long ad]))]) (va_runS (As := [.int k]) (rest := []) ⟨hx, hb, hml, hown, hts⟩ (g_bitOf l D cI cL cB cZ cT _ k) (va_cwS 1 hts gX7_turn_X7_bitOf rfl rfl rfl (by decide +kernel) ⟨Nat.le_of_ble_eq_true rfl, Nat.le_of_ble_eq_true rfl⟩) (kPreS hG hP hD [] rfl (by decide)) rfl rfl hl.1 rfl (lv_room (Nat.le_of_ble_eq_true rfl)) dX7_turn_13 ⟨Nat.le_of_ble_eq_true rfl, Nat.le_of_ble_eq_true rfl⟩) hA hP hD hS [] [0] rfl rfl (by decide) (by decide) (fun r_3 u_r_3 H locs wr_3 hP hD hS => ?_)
      have hP : va_P D vwCl [(h0, .inr (7, [.ref aS, .ref aA, .ref aU, .ref aX, .ref aW, .int pl, .int np, .int li, .int sw, .int lst, .long ad]))] H := hP
      have hD : va_D A [(h0, .inr (7, [.ref aS, .ref aA, .ref aU, .ref aX, .ref aW, .int pl, .int np, .int li, .int sw, .int lst, .long ad]))] := hD
      try dsimp only at wr_3
      subst wr_3
      refine lv_topi (fun x_4 ex_4 => ?_)
      refine lv_istore_n (lv' := [(3, .int x_4), (0, .ref h0), (1, .int k), (2, .int z)]) hx hb dX7_turn_16 rfl hl (by decide) rfl (fun ls hl => ?_)
      refine lv_aload_n hx hb dX7_turn_17 rfl (lv_at hl 1 rfl) ?_
      refine va_get (D := D) (ci := 7) (v := .int sw) (C := RX7) (T := TX7) (N := 11) hx hb hts iX7_turn_X7 hown hK hP 0 rfl rfl 8 (by decide) (hts (.fieldLink RX7 106 "TapeCalculator" "switches" "I") (List.mem_of_getElem? (i := 1) rfl)) (fun _ h9 => h9) rfl dX7_turn_18 ?_
      refine lv_iload_n hx hb dX7_turn_21 rfl (lv_at hl 0 rfl) ?_
      refine lv_iand hx hb dX7_turn_22 ?_
      refine lv_if_eq (tgt := 30) hx hb dX7_turn_23 (by decide) (fun c_23_4 => ?_) (fun c_23_4 => ?_)
      · have t_23_4 := c_23_4
        try simp only [kb_eq0, kb_ne0, lg_cmp_lt, lg_cmp_le, lg_cmp_gt, lg_cmp_ge, lg_cmp_eq] at t_23_4
        try simp only [Int32.lt_iff_toInt_lt, Int32.le_iff_toInt_le, ← Int32.toInt_inj, Int64.lt_iff_toInt_lt, Int64.le_iff_toInt_le, ← Int64.toInt_inj, Int32.toInt_toInt64, Int32.reduceToInt, Int64.reduceToInt] at t_23_4
        refine lv_iconst (v := 0) hx hb dX7_turn_30 (by decide) ?_
        refine lv_istore (lv' := [(4, .int 0), (3, .int x_4), (0, .ref h0), (1, .int k), (2, .int z)]) hx hb dX7_turn_31 hl (by decide) rfl (fun ls hl => ?_)
        refine lv_aload_n hx hb dX7_turn_33 rfl (lv_at hl 2 rfl) ?_
        refine lv_iload_n hx hb dX7_turn_34 rfl (lv_at hl 4 rfl) ?_
        refine lv_if_eq (tgt := 47) hx hb dX7_turn_35 (by decide) (fun c_35_5 => ?_) (fun c_35_5 => ?_)
        · have t_35_5 := c_35_5
          try simp only [kb_eq0, kb_ne0, lg_cmp_lt, lg_cmp_le, lg_cmp_gt, lg_cmp_ge, lg_cmp_eq] at t_35_5
          try simp only [Int32.lt_iff_toInt_lt, Int32.le_iff_toInt_le, ← Int32.toInt_inj, Int64.lt_iff_toInt_lt, Int64.le_iff_toInt_le, ← Int64.toInt_inj, Int32.toInt_toInt64, Int32.reduceToInt, Int64.reduceToInt] at t_35_5
          refine lv_aload_n hx hb dX7_turn_47 rfl (lv_at hl 2 rfl) ?_
          refine va_get (D := D) (ci := 7) (v := .int sw) (C := RX7) (T := TX7) (N := 11) hx hb hts iX7_turn_X7 hown hK hP 0 rfl rfl 8 (by decide) (hts (.fieldLink RX7 106 "TapeCalculator" "switches" "I") (List.mem_of_getElem? (i := 1) rfl)) (fun _ h9 => h9) rfl dX7_turn_48 ?_
          refine lv_iload_n hx hb dX7_turn_51 rfl (lv_at hl 1 rfl) ?_
          refine lv_iconst (v := (-1)) hx hb dX7_turn_52 (by decide) ?_
          refine lv_ixor hx hb dX7_turn_53 ?_
          refine lv_iand hx hb dX7_turn_54 ?_
          refine lv_topi (fun x_7 ex_7 => ?_)
          refine va_put (D := D) (ci := 7) (v := .int x_7) (ty := .int) (C := RX7) (T := TX7) (N := 11) hx hb hts iX7_turn_X7 tyX7 tyX7_ok nmX7 hown hK hP hD hS 0 rfl rfl 8 (by decide) (hts (.fieldLink RX7 106 "TapeCalculator" "switches" "I") (List.mem_of_getElem? (i := 1) rfl)) (fun _ h9 => h9) rfl (by decide +kernel) rfl rfl (Nat.le_of_ble_eq_true rfl) dX7_turn_55 (fun H locs hP hD hS => ?_)
          have hP : va_P D vwCl [(h0, .inr (7, [.ref aS, .ref aA, .ref aU, .ref aX, .ref aW, .int pl, .int np, .int li, .int x_7, .int lst, .long ad]))] H := hP
          have hD : va_D A [(h0, .inr (7, [.ref aS, .ref aA, .ref aU, .ref aX, .ref aW, .int pl, .int np, .int li, .int x_7, .int lst, .long ad]))] := hD
          refine lv_iload hx hb dX7_turn_58 (lv_at hl 0 rfl) ?_
          try subst ex_7
          try subst ex_4
          try subst ex_7
          try subst ex_4
          refine kIret (u := ()) hx hb hr rfl hlocks hS dX7_turn_60 ?_ (hP.sub [0] (by unfold kTrS; first | (rw [kif_f (show ¬ (1 ≤ k.toInt ∧ k.toInt ≤ 4) by omega)]; rfl) | (rw [kif_t (show 1 ≤ k.toInt ∧ k.toInt ≤ 4 by omega)]; first | (rw [kif_t (show z = 0 by assumption)]; rfl) | (rw [kif_f (show ¬ z = 0 by assumption)]; rfl)))) (hD.sub [0] (by decide) (by unfold kTrS; first | (rw [kif_f (show ¬ (1 ≤ k.toInt ∧ k.toInt ≤ 4) by omega)]; rfl) | (rw [kif_t (show 1 ≤ k.toInt ∧ k.toInt ≤ 4 by omega)]; first | (rw [kif_t (show z = 0 by assumption)]; rfl) | (rw [kif_f (show ¬ z = 0 by assumption)]; rfl))))
          unfold kTrA
          first | exact (kif_f (by omega)).symm | (refine Eq.symm ((kif_t (by omega)).trans ?_); first | exact kif_t (by assumption) | exact kif_f (by assumption))
        · have t_35_5 := c_35_5
          try simp only [kb_eq0, kb_ne0, lg_cmp_lt, lg_cmp_le, lg_cmp_gt, lg_cmp_ge, lg_cmp_eq] at t_35_5
          try simp only [Int32.lt_iff_toInt_lt, Int32.le_iff_toInt_le, ← Int32.toInt_inj, Int64.lt_iff_toInt_lt, Int64.le_iff_toInt_le, ← Int64.toInt_inj, Int32.toInt_toInt64, Int32.reduceToInt, Int64.reduceToInt] at t_35_5
          refine lv_aload_n hx hb dX7_turn_38 rfl (lv_at hl 2 rfl) ?_
          refine va_get (D := D) (ci := 7) (v := .int sw) (C := RX7) (T := TX7) (N := 11) hx hb hts iX7_turn_X7 hown hK hP 0 rfl rfl 8 (by decide) (hts (.fieldLink RX7 106 "TapeCalculator" "switches" "I") (List.mem_of_getElem? (i := 1) rfl)) (fun _ h9 => h9) rfl dX7_turn_39 ?_
          refine lv_iload_n hx hb dX7_turn_42 rfl (lv_at hl 1 rfl) ?_
          refine lv_ior hx hb dX7_turn_43 ?_
          refine lv_goto (tgt := 55) hx hb dX7_turn_44 (by decide) ?_
          refine lv_topi (fun x_8 ex_8 => ?_)
          refine va_put (D := D) (ci := 7) (v := .int x_8) (ty := .int) (C := RX7) (T := TX7) (N := 11) hx hb hts iX7_turn_X7 tyX7 tyX7_ok nmX7 hown hK hP hD hS 0 rfl rfl 8 (by decide) (hts (.fieldLink RX7 106 "TapeCalculator" "switches" "I") (List.mem_of_getElem? (i := 1) rfl)) (fun _ h9 => h9) rfl (by decide +kernel) rfl rfl (Nat.le_of_ble_eq_true rfl) dX7_turn_55 (fun H locs hP hD hS => ?_)
          have hP : va_P D vwCl [(h0, .inr (7, [.ref aS, .ref aA, .ref aU, .ref aX, .ref aW, .int pl, .int np, .int li, .int x_8, .int lst, .long ad]))] H := hP
          have hD : va_D A [(h0, .inr (7, [.ref aS, .ref aA, .ref aU, .ref aX, .ref aW, .int pl, .int np, .int li, .int x_8, .int lst, .long ad]))] := hD
          refine lv_iload hx hb dX7_turn_58 (lv_at hl 0 rfl) ?_
          try subst ex_8
          try subst ex_4
          try subst ex_8
          try subst ex_4
          refine kIret (u := ()) hx hb hr rfl hlocks hS dX7_turn_60 ?_ (hP.sub [0] (by unfold kTrS; first | (rw [kif_f (show ¬ (1 ≤ k.toInt ∧ k.toInt ≤ 4) by omega)]; rfl) | (rw [kif_t (show 1 ≤ k.toInt ∧ k.toInt ≤ 4 by omega)]; first | (rw [kif_t (show z = 0 by assumption)]; rfl) | (rw [kif_f (show ¬ z = 0 by assumption)]; rfl)))) (hD.sub [0] (by decide) (by unfold kTrS; first | (rw [kif_f (show ¬ (1 ≤ k.toInt ∧ k.toInt ≤ 4) by omega)]; rfl) | (rw [kif_t (show 1 ≤ k.toInt ∧ k.toInt ≤ 4 by omega)]; first | (rw [kif_t (show z = 0 by assumption)]; rfl) | (rw [kif_f (show ¬ z = 0 by assumption)]; rfl))))
          unfold kTrA
          first | exact (kif_f (by omega)).symm | (refine Eq.symm ((kif_t (by omega)).trans ?_); first | exact kif_t (by assumption) | exact kif_f (by assumption))
      · have t_23_4 := c_23_4
        try simp only [kb_eq0, kb_ne0, lg_cmp_lt, lg_cmp_le, lg_cmp_gt, lg_cmp_ge, lg_cmp_eq] at t_23_4
        try simp only [Int32.lt_iff_toInt_lt, Int32.le_iff_toInt_le, ← Int32.toInt_inj, Int64.lt_iff_toInt_lt, Int64.le_iff_toInt_le, ← Int64.toInt_inj, Int32.toInt_toInt64, Int32.reduceToInt, Int64.reduceToInt] at t_23_4
        refine lv_iconst (v := 1) hx hb dX7_turn_26 (by decide) ?_
        refine lv_goto (tgt := 31) hx hb dX7_turn_27 (by decide) ?_
        refine lv_istore (lv' := [(4, .int 1), (3, .int x_4), (0, .ref h0), (1, .int k), (2, .int z)]) hx hb dX7_turn_31 hl (by decide) rfl (fun ls hl => ?_)
        refine lv_aload_n hx hb dX7_turn_33 rfl (lv_at hl 2 rfl) ?_
        refine lv_iload_n hx hb dX7_turn_34 rfl (lv_at hl 4 rfl) ?_
        refine lv_if_eq (tgt := 47) hx hb dX7_turn_35 (by decide) (fun c_35_8 => ?_) (fun c_35_8 => ?_)
        · have t_35_8 := c_35_8
          try simp only [kb_eq0, kb_ne0, lg_cmp_lt, lg_cmp_le, lg_cmp_gt, lg_cmp_ge, lg_cmp_eq] at t_35_8
          try simp only [Int32.lt_iff_toInt_lt, Int32.le_iff_toInt_le, ← Int32.toInt_inj, Int64.lt_iff_toInt_lt, Int64.le_iff_toInt_le, ← Int64.toInt_inj, Int32.toInt_toInt64, Int32.reduceToInt, Int64.reduceToInt] at t_35_8
          refine lv_aload_n hx hb dX7_turn_47 rfl (lv_at hl 2 rfl) ?_
          refine va_get (D := D) (ci := 7) (v := .int sw) (C := RX7) (T := TX7) (N := 11) hx hb hts iX7_turn_X7 hown hK hP 0 rfl rfl 8 (by decide) (hts (.fieldLink RX7 106 "TapeCalculator" "switches" "I") (List.mem_of_getElem? (i := 1) rfl)) (fun _ h9 => h9) rfl dX7_turn_48 ?_
          refine lv_iload_n hx hb dX7_turn_51 rfl (lv_at hl 1 rfl) ?_
          refine lv_iconst (v := (-1)) hx hb dX7_turn_52 (by decide) ?_
          refine lv_ixor hx hb dX7_turn_53 ?_
          refine lv_iand hx hb dX7_turn_54 ?_
          refine lv_topi (fun x_10 ex_10 => ?_)
          refine va_put (D := D) (ci := 7) (v := .int x_10) (ty := .int) (C := RX7) (T := TX7) (N := 11) hx hb hts iX7_turn_X7 tyX7 tyX7_ok nmX7 hown hK hP hD hS 0 rfl rfl 8 (by decide) (hts (.fieldLink RX7 106 "TapeCalculator" "switches" "I") (List.mem_of_getElem? (i := 1) rfl)) (fun _ h9 => h9) rfl (by decide +kernel) rfl rfl (Nat.le_of_ble_eq_true rfl) dX7_turn_55 (fun H locs hP hD hS => ?_)
          have hP : va_P D vwCl [(h0, .inr (7, [.ref aS, .ref aA, .ref aU, .ref aX, .ref aW, .int pl, .int np, .int li, .int x_10, .int lst, .long ad]))] H := hP
          have hD : va_D A [(h0, .inr (7, [.ref aS, .ref aA, .ref aU, .ref aX, .ref aW, .int pl, .int np, .int li, .int x_10, .int lst, .long ad]))] := hD
          refine lv_iload hx hb dX7_turn_58 (lv_at hl 0 rfl) ?_
          try subst ex_10
          try subst ex_4
          try subst ex_10
          try subst ex_4
          refine kIret (u := ()) hx hb hr rfl hlocks hS dX7_turn_60 ?_ (hP.sub [0] (by unfold kTrS; first | (rw [kif_f (show ¬ (1 ≤ k.toInt ∧ k.toInt ≤ 4) by omega)]; rfl) | (rw [kif_t (show 1 ≤ k.toInt ∧ k.toInt ≤ 4 by omega)]; first | (rw [kif_t (show z = 0 by assumption)]; rfl) | (rw [kif_f (show ¬ z = 0 by assumption)]; rfl)))) (hD.sub [0] (by decide) (by unfold kTrS; first | (rw [kif_f (show ¬ (1 ≤ k.toInt ∧ k.toInt ≤ 4) by omega)]; rfl) | (rw [kif_t (show 1 ≤ k.toInt ∧ k.toInt ≤ 4 by omega)]; first | (rw [kif_t (show z = 0 by assumption)]; rfl) | (rw [kif_f (show ¬ z = 0 by assumption)]; rfl))))
          unfold kTrA
          first | exact (kif_f (by omega)).symm | (refine Eq.symm ((kif_t (by omega)).trans ?_); first | exact kif_t (by assumption) | exact kif_f (by assumption))
        · have t_35_8 := c_35_8
          try simp only [kb_eq0, kb_ne0, lg_cmp_lt, lg_cmp_le, lg_cmp_gt, lg_cmp_ge, lg_cmp_eq] at t_35_8
          try simp only [Int32.lt_iff_toInt_lt, Int32.le_iff_toInt_le, ← Int32.toInt_inj, Int64.lt_iff_toInt_lt, Int64.le_iff_toInt_le, ← Int64.toInt_inj, Int32.toInt_toInt64, Int32.reduceToInt, Int64.reduceToInt] at t_35_8
          refine lv_aload_n hx hb dX7_turn_38 rfl (lv_at hl 2 rfl) ?_
          refine va_get (D := D) (ci := 7) (v := .int sw) (C := RX7) (T := TX7) (N := 11) hx hb hts iX7_turn_X7 hown hK hP 0 rfl rfl 8 (by decide) (hts (.fieldLink RX7 106 "TapeCalculator" "switches" "I") (List.mem_of_getElem? (i := 1) rfl)) (fun _ h9 => h9) rfl dX7_turn_39 ?_
          refine lv_iload_n hx hb dX7_turn_42 rfl (lv_at hl 1 rfl) ?_
          refine lv_ior hx hb dX7_turn_43 ?_
          refine lv_goto (tgt := 55) hx hb dX7_turn_44 (by decide) ?_
          refine lv_topi (fun x_11 ex_11 => ?_)
          refine va_put (D := D) (ci := 7) (v := .int x_11) (ty := .int) (C := RX7) (T := TX7) (N := 11) hx hb hts iX7_turn_X7 tyX7 tyX7_ok nmX7 hown hK hP hD hS 0 rfl rfl 8 (by decide) (hts (.fieldLink RX7 106 "TapeCalculator" "switches" "I") (List.mem_of_getElem? (i := 1) rfl)) (fun _ h9 => h9) rfl (by decide +kernel) rfl rfl (Nat.le_of_ble_eq_true rfl) dX7_turn_55 (fun H locs hP hD hS => ?_)
          have hP : va_P D vwCl [(h0, .inr (7, [.ref aS, .ref aA, .ref aU, .ref aX, .ref aW, .int pl, .int np, .int li, .int x_11, .int lst, .long ad]))] H := hP
          have hD : va_D A [(h0, .inr (7, [.ref aS, .ref aA, .ref aU, .ref aX, .ref aW, .int pl, .int np, .int li, .int x_11, .int lst, .long ad]))] := hD
          refine lv_iload hx hb dX7_turn_58 (lv_at hl 0 rfl) ?_
          try subst ex_11
          try subst ex_4
          try subst ex_11
          try subst ex_4
          refine kIret (u := ()) hx hb hr rfl hlocks hS dX7_turn_60 ?_ (hP.sub [0] (by unfold kTrS; first | (rw [kif_f (show ¬ (1 ≤ k.toInt ∧ k.toInt ≤ 4) by omega)]; rfl) | (rw [kif_t (show 1 ≤ k.toInt ∧ k.toInt ≤ 4 by omega)]; first | (rw [kif_t (show z = 0 by assumption)]; rfl) | (rw [kif_f (show ¬ z = 0 by assumption)]; rfl)))) (hD.sub [0] (by decide) (by unfold kTrS; first | (rw [kif_f (show ¬ (1 ≤ k.toInt ∧ k.toInt ≤ 4) by omega)]; rfl) | (rw [kif_t (show 1 ≤ k.toInt ∧ k.toInt ≤ 4 by omega)]; first | (rw [kif_t (show z = 0 by assumption)]; rfl) | (rw [kif_f (show ¬ z = 0 by assumption)]; rfl))))
          unfold kTrA
          first | exact (kif_f (by omega)).symm | (refine Eq.symm ((kif_t (by omega)).trans ?_); first | exact kif_t (by assumption) | exact kif_f (by assumption))
    · have t_7_1 := c_7_1
      try simp only [kb_eq0, kb_ne0, lg_cmp_lt, lg_cmp_le, lg_cmp_gt, lg_cmp_ge, lg_cmp_eq] at t_7_1
      try simp only [Int32.lt_iff_toInt_lt, Int32.le_iff_toInt_le, ← Int32.toInt_inj, Int64.lt_iff_toInt_lt, Int64.le_iff_toInt_le, ← Int64.toInt_inj, Int32.toInt_toInt64, Int32.reduceToInt, Int64.reduceToInt] at t_7_1
      refine lv_iconst (v := (-1)) hx hb dX7_turn_10 (by decide) ?_
      refine kIret (u := ()) hx hb hr rfl hlocks hS dX7_turn_11 ?_ (hP.sub [0] (by unfold kTrS; first | (rw [kif_f (show ¬ (1 ≤ k.toInt ∧ k.toInt ≤ 4) by omega)]; rfl) | (rw [kif_t (show 1 ≤ k.toInt ∧ k.toInt ≤ 4 by omega)]; first | (rw [kif_t (show z = 0 by assumption)]; rfl) | (rw [kif_f (show ¬ z = 0 by assumption)]; rfl)))) (hD.sub [0] (by decide) (by unfold kTrS; first | (rw [kif_f (show ¬ (1 ≤ k.toInt ∧ k.toInt ≤ 4) by omega)]; rfl) | (rw [kif_t (show 1 ≤ k.toInt ∧ k.toInt ≤ 4 by omega)]; first | (rw [kif_t (show z = 0 by assumption)]; rfl) | (rw [kif_f (show ¬ z = 0 by assumption)]; rfl))))
      unfold kTrA
      first | exact (kif_f (by omega)).symm | (refine Eq.symm ((kif_t (by omega)).trans ?_); first | exact kif_t (by assumption) | exact kif_f (by assumption))
set_option maxRecDepth 100000 in
theorem iX7_acts_X7 : ∀ w ∈ wsX70, w ∈ wsX7_acts := fun w h => (goodIn_r (big := wsX7_acts) wsX70 [2, 3, 4, 5, 6, 7, 8, 9, 10, 11, 12] rfl (by decide +kernel) w h).1
set_option maxRecDepth 100000 in
set_option maxHeartbeats 4000000 in
theorem g_acts (l : Launch) (D : va_G) (cI cL cB cZ cT : ClassId) (sz : Nat) (h0 aS aA aU aX aW : Nat) (pl np li sw lst : Int32) (ad : Int64) : kM (S := Unit) l yX7_acts wsX7_acts ({ frames := 0, cells := 0, slots := 0, locals := 0 }) D (kT cI cL cB cZ cT) [.ref h0] [(h0, .inr (7, [.ref aS, .ref aA, .ref aU, .ref aX, .ref aW, .int pl, .int np, .int li, .int sw, .int lst, .long ad]))] sz eL (fun _ _ => True) (fun _ => [(h0, .inr (7, [.ref aS, .ref aA, .ref aU, .ref aX, .ref aW, .int pl, .int np, .int li, .int sw, .int lst, .long ad]))]) 0 0 := by
  refine kStart (cc := cX7_acts) (maxL := 1) (ret := (some .long)) (own := RX7) (by decide) rfl rfl (Nat.le_of_ble_eq_true rfl) ?_
  intro p e s m args below meth c A ls hx hb hr hml hown hts hlocks hnm hsz hA hG hP hD hS hl
  have hK := hG.1
  have hl : lv_has ls 1 [(0, .ref h0)] := hl
  refine lv_aload_n hx hb dX7_acts_0 rfl (lv_at hl 0 rfl) ?_
  refine va_get (D := D) (ci := 7) (v := .long ad) (C := RX7) (T := TX7) (N := 11) hx hb hts iX7_acts_X7 hown hK hP 0 rfl rfl 10 (by decide) (hts (.fieldLink RX7 112 "TapeCalculator" "actsDone" "J") (List.mem_of_getElem? (i := 1) rfl)) (fun _ h9 => h9) rfl dX7_acts_1 ?_
  refine kLret (u := ()) hx hb hr hlocks hS dX7_acts_4 ?_ (hP.sub [0] rfl) (hD.sub [0] (by decide) rfl)
  exact trivial
