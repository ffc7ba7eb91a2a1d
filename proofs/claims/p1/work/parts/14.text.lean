set_option maxRecDepth 100000 in
theorem iX5_isFaulty_X5 : ∀ w ∈ wsX50, w ∈ wsX5_isFaulty := fun w h => (goodIn_r (big := wsX5_isFaulty) wsX50 [2, 3, 4, 5, 6, 7, 8] rfl (by decide +kernel) w h).1
set_option maxRecDepth 100000 in
set_option maxHeartbeats 4000000 in
theorem c_isFaulty (l : Launch) (D : va_G) (cI cL cB cZ cT : ClassId) (sz : Nat) (aX bX : Nat) : kM (S := Unit) l yX5_isFaulty wsX5_isFaulty ({ frames := 0, cells := 0, slots := 0, locals := 0 }) D (kT cI cL cB cZ cT) [.ref aX] [(aX, .inr (5, [.ref bX, .int 0, .int (-1), .int 0, .int 0, .int 0, .long 0]))] sz eI (fun r _ => r = 0) (fun _ => [(aX, .inr (5, [.ref bX, .int 0, .int (-1), .int 0, .int 0, .int 0, .long 0]))]) 0 0 := by
  refine kStart (cc := cX5_isFaulty) (maxL := 1) (ret := (some .boolean)) (own := RX5) (by decide) rfl rfl (Nat.le_of_ble_eq_true rfl) ?_
  intro p e s m args below meth c A ls hx hb hr hml hown hts hlocks hnm hsz hA hG hP hD hS hl
  have hK := hG.1
  have hl : lv_has ls 1 [(0, .ref aX)] := hl
  refine lv_aload_n hx hb dX5_isFaulty_0 rfl (lv_at hl 0 rfl) ?_
  refine va_get (D := D) (ci := 5) (v := .int (-1)) (C := RX5) (T := TX5) (N := 7) hx hb hts iX5_isFaulty_X5 hown hK hP 0 rfl rfl 2 (by decide) (hts (.fieldLink RX5 15 "TapeCalculator$Text" "fault" "I") (List.mem_of_getElem? (i := 1) rfl)) (fun _ h9 => h9) rfl dX5_isFaulty_1 ?_
  refine lv_iconst (v := (-1)) hx hb dX5_isFaulty_4 (by decide) ?_
  refine lv_icmp_eq (tgt := 12) hx hb dX5_isFaulty_5 (by decide) (fun c_5_0 => ?_) (fun c_5_0 => ?_)
  · have t_5_0 := c_5_0
    try simp only [kb_eq0, kb_ne0, lg_cmp_lt, lg_cmp_le, lg_cmp_gt, lg_cmp_ge, lg_cmp_eq] at t_5_0
    try simp only [Int32.lt_iff_toInt_lt, Int32.le_iff_toInt_le, ← Int32.toInt_inj, Int64.lt_iff_toInt_lt, Int64.le_iff_toInt_le, ← Int64.toInt_inj, Int32.toInt_toInt64, Int32.reduceToInt, Int64.reduceToInt] at t_5_0
    refine lv_iconst (v := 0) hx hb dX5_isFaulty_12 (by decide) ?_
    refine kIret (u := ()) hx hb hr rfl hlocks hS dX5_isFaulty_13 ?_ (hP.sub [0] rfl) (hD.sub [0] (by decide) rfl)
    exact rfl
  · exact absurd (by decide) c_5_0
set_option maxRecDepth 100000 in
theorem iX5_readLines_X5 : ∀ w ∈ wsX50, w ∈ wsX5_readLines := fun w h => (goodIn_r (big := wsX5_readLines) wsX50 [74, 75, 76, 77, 78, 79, 80] rfl (by decide +kernel) w h).1
set_option maxRecDepth 100000 in
set_option maxHeartbeats 4000000 in
theorem c_readLines (l : Launch) (D : va_G) (cI cL cB cZ cT : ClassId) (sz : Nat) (aX bX aS : Nat) (z : Int32) : kM (S := Unit) l yX5_readLines wsX5_readLines ({ frames := 0, cells := 0, slots := 0, locals := 0 }) D (kT cI cL cB cZ cT) [.ref aX, .ref aS, .int z] [(aX, .inr (5, [.ref bX, .int 0, .int (-1), .int 0, .int 0, .int 0, .long 0]))] sz eI (fun r _ => r = 0) (fun _ => [(aX, .inr (5, [.ref bX, .int 0, .int (-1), .int 0, .int 0, .int 0, .long 0]))]) 0 0 := by
  refine kStart (cc := cX5_readLines) (maxL := 4) (ret := (some .int)) (own := RX5) (by decide) rfl rfl (Nat.le_of_ble_eq_true rfl) ?_
  intro p e s m args below meth c A ls hx hb hr hml hown hts hlocks hnm hsz hA hG hP hD hS hl
  have hK := hG.1
  have hl : lv_has ls 4 [(0, .ref aX), (1, .ref aS), (2, .int z)] := hl
  refine lv_aload_n hx hb dX5_readLines_0 rfl (lv_at hl 0 rfl) ?_
  refine lv_iconst (v := 0) hx hb dX5_readLines_1 (by decide) ?_
  refine va_put (D := D) (ci := 5) (v := .int 0) (ty := .int) (C := RX5) (T := TX5) (N := 7) hx hb hts iX5_readLines_X5 tyX5 tyX5_ok nmX5 hown hK hP hD hS 0 rfl rfl 3 (by decide) (hts (.fieldLink RX5 22 "TapeCalculator$Text" "at" "I") (List.mem_of_getElem? (i := 1) rfl)) (fun _ h9 => h9) rfl (by decide +kernel) rfl rfl (Nat.le_of_ble_eq_true rfl) dX5_readLines_2 (fun H locs hP hD hS => ?_)
  have hP : va_P D vwCl [(aX, .inr (5, [.ref bX, .int 0, .int (-1), .int 0, .int 0, .int 0, .long 0]))] H := hP
  have hD : va_D A [(aX, .inr (5, [.ref bX, .int 0, .int (-1), .int 0, .int 0, .int 0, .long 0]))] := hD
  refine lv_aload_n hx hb dX5_readLines_5 rfl (lv_at hl 0 rfl) ?_
  refine lv_iconst (v := (-1)) hx hb dX5_readLines_6 (by decide) ?_
  refine va_put (D := D) (ci := 5) (v := .int (-1)) (ty := .int) (C := RX5) (T := TX5) (N := 7) hx hb hts iX5_readLines_X5 tyX5 tyX5_ok nmX5 hown hK hP hD hS 0 rfl rfl 2 (by decide) (hts (.fieldLink RX5 15 "TapeCalculator$Text" "fault" "I") (List.mem_of_getElem? (i := 2) rfl)) (fun _ h9 => h9) rfl (by decide +kernel) rfl rfl (Nat.le_of_ble_eq_true rfl) dX5_readLines_7 (fun H locs hP hD hS => ?_)
  have hP : va_P D vwCl [(aX, .inr (5, [.ref bX, .int 0, .int (-1), .int 0, .int 0, .int 0, .long 0]))] H := hP
  have hD : va_D A [(aX, .inr (5, [.ref bX, .int 0, .int (-1), .int 0, .int 0, .int 0, .long 0]))] := hD
  refine lv_iconst (v := 0) hx hb dX5_readLines_10 (by decide) ?_
  refine lv_istore_n (lv' := [(3, .int 0), (0, .ref aX), (1, .ref aS), (2, .int z)]) hx hb dX5_readLines_11 rfl hl (by decide) rfl (fun ls hl => ?_)
  refine lv_iload_n hx hb dX5_readLines_12 rfl (lv_at hl 0 rfl) ?_
  refine lv_sipush (v := 200) hx hb dX5_readLines_13 (by decide) ?_
  refine lv_icmp_ge (tgt := 60) hx hb dX5_readLines_16 (by decide) (fun c_16_0 => ?_) (fun c_16_0 => ?_)
  · exact absurd c_16_0 (by decide)
  · have t_16_0 := c_16_0
    try simp only [kb_eq0, kb_ne0, lg_cmp_lt, lg_cmp_le, lg_cmp_gt, lg_cmp_ge, lg_cmp_eq] at t_16_0
    try simp only [Int32.lt_iff_toInt_lt, Int32.le_iff_toInt_le, ← Int32.toInt_inj, Int64.lt_iff_toInt_lt, Int64.le_iff_toInt_le, ← Int64.toInt_inj, Int32.toInt_toInt64, Int32.reduceToInt, Int64.reduceToInt] at t_16_0
    refine lv_aload_n hx hb dX5_readLines_19 rfl (lv_at hl 1 rfl) ?_
    refine va_get (D := D) (ci := 5) (v := .int 0) (C := RX5) (T := TX5) (N := 7) hx hb hts iX5_readLines_X5 hown hK hP 0 rfl rfl 3 (by decide) (hts (.fieldLink RX5 22 "TapeCalculator$Text" "at" "I") (List.mem_of_getElem? (i := 1) rfl)) (fun _ h9 => h9) rfl dX5_readLines_20 ?_
    refine lv_aload_n hx hb dX5_readLines_23 rfl (lv_at hl 1 rfl) ?_
    refine va_get (D := D) (ci := 5) (v := .int 0) (C := RX5) (T := TX5) (N := 7) hx hb hts iX5_readLines_X5 hown hK hP 0 rfl rfl 1 (by decide) (hts (.fieldLink RX5 19 "TapeCalculator$Text" "length" "I") (List.mem_of_getElem? (i := 3) rfl)) (fun _ h9 => h9) rfl dX5_readLines_24 ?_
    refine lv_icmp_lt (tgt := 32) hx hb dX5_readLines_27 (by decide) (fun c_27_1 => ?_) (fun c_27_1 => ?_)
    · exact absurd c_27_1 (by decide)
    · have t_27_1 := c_27_1
      try simp only [kb_eq0, kb_ne0, lg_cmp_lt, lg_cmp_le, lg_cmp_gt, lg_cmp_ge, lg_cmp_eq] at t_27_1
      try simp only [Int32.lt_iff_toInt_lt, Int32.le_iff_toInt_le, ← Int32.toInt_inj, Int64.lt_iff_toInt_lt, Int64.le_iff_toInt_le, ← Int64.toInt_inj, Int32.toInt_toInt64, Int32.reduceToInt, Int64.reduceToInt] at t_27_1
      refine lv_iload_n hx hb dX5_readLines_30 rfl (lv_at hl 0 rfl) ?_
      refine kIret (u := ()) hx hb hr rfl hlocks hS dX5_readLines_31 ?_ (hP.sub [0] rfl) (hD.sub [0] (by decide) rfl)
      exact rfl
set_option maxRecDepth 100000 in
theorem iX7_load_X7 : ∀ w ∈ wsX70, w ∈ wsX7_load := fun w h => (goodIn_r (big := wsX7_load) wsX70 [83, 84, 85, 86, 87, 88, 89, 90, 91, 92, 93] rfl (by decide +kernel) w h).1
set_option maxRecDepth 100000 in
theorem iX7_load_X5 : ∀ w ∈ wsX50, w ∈ wsX7_load := fun w h => (goodIn_r (big := wsX7_load) wsX50 [94, 95, 96, 97, 98, 99, 100] rfl (by decide +kernel) w h).1
set_option maxRecDepth 100000 in
set_option maxHeartbeats 4000000 in
theorem c_load (l : Launch) (D : va_G) (cI cL cB cZ cT : ClassId) (sz : Nat) (h0 aS aA aU aX aW : Nat) (bX : Nat) : kM (S := Unit) l yX7_load wsX7_load ({ frames := 1, cells := 0, slots := 0, locals := 23 }) D (kT cI cL cB cZ cT) [.ref h0] [(h0, .inr (7, [.ref aS, .ref aA, .ref aU, .ref aX, .ref aW, .int 0, .int 0, .int 0, .int 0, .int 0, .long 0])), (aX, .inr (5, [.ref bX, .int 0, .int (-1), .int 0, .int 0, .int 0, .long 0]))] sz eI (fun r _ => r = 0) (fun _ => [(h0, .inr (7, [.ref aS, .ref aA, .ref aU, .ref aX, .ref aW, .int 0, .int 0, .int 0, .int 0, .int 0, .long 0])), (aX, .inr (5, [.ref bX, .int 0, .int (-1), .int 0, .int 0, .int 0, .long 0]))]) 0 0 := by
  refine kStart (cc := cX7_load) (maxL := 2) (ret := (some .int)) (own := RX7) (by decide) rfl rfl (Nat.le_of_ble_eq_true rfl) ?_
  intro p e s m args below meth c A ls hx hb hr hml hown hts hlocks hnm hsz hA hG hP hD hS hl
  have hK := hG.1
  have hl : lv_has ls 2 [(0, .ref h0)] := hl
  refine lv_aload_n hx hb dX7_load_0 rfl (lv_at hl 0 rfl) ?_
  refine va_get (D := D) (ci := 7) (v := .ref aX) (C := RX7) (T := TX7) (N := 11) hx hb hts iX7_load_X7 hown hK hP 0 rfl rfl 3 (by decide) (hts (.fieldLink RX7 33 "TapeCalculator" "text" "LTapeCalculator$Text;") (List.mem_of_getElem? (i := 1) rfl)) (fun _ h9 => h9) rfl dX7_load_1 ?_
  refine lv_aload_n hx hb dX7_load_4 rfl (lv_at hl 0 rfl) ?_
  refine va_get (D := D) (ci := 7) (v := .ref aS) (C := RX7) (T := TX7) (N := 11) hx hb hts iX7_load_X7 hown hK hP 0 rfl rfl 0 (by decide) (hts (.fieldLink RX7 12 "TapeCalculator" "store" "LTapeCalculator$Store;") (List.mem_of_getElem? (i := 2) rfl)) (fun _ h9 => h9) rfl dX7_load_5 ?_
  refine lv_iconst (v := 0) hx hb dX7_load_8 (by decide) ?_
  refine kCallI (wr := [(h0, .inr (7, [.ref aS, .ref aA, .ref aU, .ref aX, .ref aW, .int 0, .int 0, .int 0, .int 0, .int 0, .long 0]))]) (va_runV (As := [.ref aS, .int 0]) (rest := []) ⟨hx, hb, hml, hown, hts⟩ (c_readLines l D cI cL cB cZ cT _ aX bX aS 0) (cwV 2 hts gX7_load_X5_readLines rfl rfl rfl (by decide +kernel) ⟨Nat.le_of_ble_eq_true rfl, Nat.le_of_ble_eq_true rfl⟩) (kPreV hG hP hD [1] rfl (by decide) 0 5 rfl rfl rfl) rfl rfl hl.1 rfl (lv_room (Nat.le_of_ble_eq_true rfl)) dX7_load_9 ⟨Nat.le_of_ble_eq_true rfl, Nat.le_of_ble_eq_true rfl⟩) hA hP hD hS [1] [0] rfl rfl (by decide) (by decide) (fun r_1 u_r_1 H locs wr_1 hP hD hS => ?_)
  have hP : va_P D vwCl [(h0, .inr (7, [.ref aS, .ref aA, .ref aU, .ref aX, .ref aW, .int 0, .int 0, .int 0, .int 0, .int 0, .long 0])), (aX, .inr (5, [.ref bX, .int 0, .int (-1), .int 0, .int 0, .int 0, .long 0]))] H := hP
  have hD : va_D A [(h0, .inr (7, [.ref aS, .ref aA, .ref aU, .ref aX, .ref aW, .int 0, .int 0, .int 0, .int 0, .int 0, .long 0])), (aX, .inr (5, [.ref bX, .int 0, .int (-1), .int 0, .int 0, .int 0, .long 0]))] := hD
  try dsimp only at wr_1
  subst wr_1
  refine lv_istore_n (lv' := [(1, .int 0), (0, .ref h0)]) hx hb dX7_load_12 rfl hl (by decide) rfl (fun ls hl => ?_)
  refine lv_aload_n hx hb dX7_load_13 rfl (lv_at hl 1 rfl) ?_
  refine va_get (D := D) (ci := 7) (v := .ref aX) (C := RX7) (T := TX7) (N := 11) hx hb hts iX7_load_X7 hown hK hP 0 rfl rfl 3 (by decide) (hts (.fieldLink RX7 33 "TapeCalculator" "text" "LTapeCalculator$Text;") (List.mem_of_getElem? (i := 1) rfl)) (fun _ h9 => h9) rfl dX7_load_14 ?_
  refine kCallI (wr := [(h0, .inr (7, [.ref aS, .ref aA, .ref aU, .ref aX, .ref aW, .int 0, .int 0, .int 0, .int 0, .int 0, .long 0]))]) (va_runV (As := []) (rest := []) ⟨hx, hb, hml, hown, hts⟩ (c_isFaulty l D cI cL cB cZ cT _ aX bX) (cwV 0 hts gX7_load_X5_isFaulty rfl rfl rfl (by decide +kernel) ⟨Nat.le_of_ble_eq_true rfl, Nat.le_of_ble_eq_true rfl⟩) (kPreV hG hP hD [1] rfl (by decide) 0 5 rfl rfl rfl) rfl rfl hl.1 rfl (lv_room (Nat.le_of_ble_eq_true rfl)) dX7_load_17 ⟨Nat.le_of_ble_eq_true rfl, Nat.le_of_ble_eq_true rfl⟩) hA hP hD hS [1] [0] rfl rfl (by decide) (by decide) (fun r_2 u_r_2 H locs wr_2 hP hD hS => ?_)
  have hP : va_P D vwCl [(h0, .inr (7, [.ref aS, .ref aA, .ref aU, .ref aX, .ref aW, .int 0, .int 0, .int 0, .int 0, .int 0, .long 0])), (aX, .inr (5, [.ref bX, .int 0, .int (-1), .int 0, .int 0, .int 0, .long 0]))] H := hP
  have hD : va_D A [(h0, .inr (7, [.ref aS, .ref aA, .ref aU, .ref aX, .ref aW, .int 0, .int 0, .int 0, .int 0, .int 0, .long 0])), (aX, .inr (5, [.ref bX, .int 0, .int (-1), .int 0, .int 0, .int 0, .long 0]))] := hD
  try dsimp only at wr_2
  subst wr_2
  refine lv_if_eq (tgt := 37) hx hb dX7_load_20 (by decide) (fun c_20_2 => ?_) (fun c_20_2 => ?_)
  · have t_20_2 := c_20_2
    try simp only [kb_eq0, kb_ne0, lg_cmp_lt, lg_cmp_le, lg_cmp_gt, lg_cmp_ge, lg_cmp_eq] at t_20_2
    try simp only [Int32.lt_iff_toInt_lt, Int32.le_iff_toInt_le, ← Int32.toInt_inj, Int64.lt_iff_toInt_lt, Int64.le_iff_toInt_le, ← Int64.toInt_inj, Int32.toInt_toInt64, Int32.reduceToInt, Int64.reduceToInt] at t_20_2
    refine lv_aload_n hx hb dX7_load_37 rfl (lv_at hl 1 rfl) ?_
    refine va_get (D := D) (ci := 7) (v := .ref aX) (C := RX7) (T := TX7) (N := 11) hx hb hts iX7_load_X7 hown hK hP 0 rfl rfl 3 (by decide) (hts (.fieldLink RX7 33 "TapeCalculator" "text" "LTapeCalculator$Text;") (List.mem_of_getElem? (i := 1) rfl)) (fun _ h9 => h9) rfl dX7_load_38 ?_
    refine lv_aload_n hx hb dX7_load_41 rfl (lv_at hl 1 rfl) ?_
    refine va_get (D := D) (ci := 7) (v := .ref aS) (C := RX7) (T := TX7) (N := 11) hx hb hts iX7_load_X7 hown hK hP 0 rfl rfl 0 (by decide) (hts (.fieldLink RX7 12 "TapeCalculator" "store" "LTapeCalculator$Store;") (List.mem_of_getElem? (i := 2) rfl)) (fun _ h9 => h9) rfl dX7_load_42 ?_
    refine lv_iconst (v := 1) hx hb dX7_load_45 (by decide) ?_
    refine kCallI (wr := [(h0, .inr (7, [.ref aS, .ref aA, .ref aU, .ref aX, .ref aW, .int 0, .int 0, .int 0, .int 0, .int 0, .long 0]))]) (va_runV (As := [.ref aS, .int 1]) (rest := []) ⟨hx, hb, hml, hown, hts⟩ (c_readLines l D cI cL cB cZ cT _ aX bX aS 1) (cwV 2 hts gX7_load_X5_readLines rfl rfl rfl (by decide +kernel) ⟨Nat.le_of_ble_eq_true rfl, Nat.le_of_ble_eq_true rfl⟩) (kPreV hG hP hD [1] rfl (by decide) 0 5 rfl rfl rfl) rfl rfl hl.1 rfl (lv_room (Nat.le_of_ble_eq_true rfl)) dX7_load_46 ⟨Nat.le_of_ble_eq_true rfl, Nat.le_of_ble_eq_true rfl⟩) hA hP hD hS [1] [0] rfl rfl (by decide) (by decide) (fun r_4 u_r_4 H locs wr_4 hP hD hS => ?_)
    have hP : va_P D vwCl [(h0, .inr (7, [.ref aS, .ref aA, .ref aU, .ref aX, .ref aW, .int 0, .int 0, .int 0, .int 0, .int 0, .long 0])), (aX, .inr (5, [.ref bX, .int 0, .int (-1), .int 0, .int 0, .int 0, .long 0]))] H := hP
    have hD : va_D A [(h0, .inr (7, [.ref aS, .ref aA, .ref aU, .ref aX, .ref aW, .int 0, .int 0, .int 0, .int 0, .int 0, .long 0])), (aX, .inr (5, [.ref bX, .int 0, .int (-1), .int 0, .int 0, .int 0, .long 0]))] := hD
    try dsimp only at wr_4
    subst wr_4
    refine lv_pop hx hb dX7_load_49 rfl ?_
    refine lv_aload_n hx hb dX7_load_50 rfl (lv_at hl 1 rfl) ?_
    refine va_get (D := D) (ci := 7) (v := .ref aX) (C := RX7) (T := TX7) (N := 11) hx hb hts iX7_load_X7 hown hK hP 0 rfl rfl 3 (by decide) (hts (.fieldLink RX7 33 "TapeCalculator" "text" "LTapeCalculator$Text;") (List.mem_of_getElem? (i := 1) rfl)) (fun _ h9 => h9) rfl dX7_load_51 ?_
    refine lv_iconst (v := 0) hx hb dX7_load_54 (by decide) ?_
    refine va_put (D := D) (ci := 5) (v := .int 0) (ty := .int) (C := RX5) (T := TX5) (N := 7) hx hb hts iX7_load_X5 tyX5 tyX5_ok nmX5 hown hK hP hD hS 1 rfl rfl 1 (by decide) (hts (.fieldLink RX7 147 "TapeCalculator$Text" "length" "I") (List.mem_of_getElem? (i := 4) rfl)) (fun _ h9 => h9) rfl (by decide +kernel) rfl rfl (Nat.le_of_ble_eq_true rfl) dX7_load_55 (fun H locs hP hD hS => ?_)
    have hP : va_P D vwCl [(h0, .inr (7, [.ref aS, .ref aA, .ref aU, .ref aX, .ref aW, .int 0, .int 0, .int 0, .int 0, .int 0, .long 0])), (aX, .inr (5, [.ref bX, .int 0, .int (-1), .int 0, .int 0, .int 0, .long 0]))] H := hP
    have hD : va_D A [(h0, .inr (7, [.ref aS, .ref aA, .ref aU, .ref aX, .ref aW, .int 0, .int 0, .int 0, .int 0, .int 0, .long 0])), (aX, .inr (5, [.ref bX, .int 0, .int (-1), .int 0, .int 0, .int 0, .long 0]))] := hD
    refine lv_iload_n hx hb dX7_load_58 rfl (lv_at hl 0 rfl) ?_
    refine kIret (u := ()) hx hb hr rfl hlocks hS dX7_load_59 ?_ (hP.sub [0, 1] rfl) (hD.sub [0, 1] (by decide) rfl)
    exact rfl
  · exact absurd (by decide) c_20_2
