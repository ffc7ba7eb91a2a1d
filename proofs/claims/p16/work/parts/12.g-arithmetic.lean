set_option maxRecDepth 100000 in
theorem iX0_accWord_X0 : ∀ w ∈ wsX00, w ∈ wsX0_accWord := fun w h => (goodIn_r (big := wsX0_accWord) wsX00 [7, 8, 9, 10, 11] rfl (by decide +kernel) w h).1
set_option maxRecDepth 100000 in
set_option maxHeartbeats 4000000 in
theorem g_accWord (l : Launch) (D : va_G) (cI cL cB cZ cT : ClassId) (sz : Nat) (aA : Nat) (sA : Int32) (zA : Int64) (sM : Int32) (zM : Int64) (vO : Int32) : kM (S := Unit) l yX0_accWord wsX0_accWord ({ frames := 1, cells := 0, slots := 0, locals := 22 }) D (kT cI cL cB cZ cT) [.ref aA] [(aA, .inr (0, [.int sA, .long zA, .int sM, .long zM, .int vO]))] sz eL (fun _ _ => True) (fun _ => [(aA, .inr (0, [.int sA, .long zA, .int sM, .long zM, .int vO]))]) 0 0 := by
  refine kStart (cc := cX0_accWord) (maxL := 1) (ret := (some .long)) (own := RX0) (by decide) rfl rfl (Nat.le_of_ble_eq_true rfl) ?_
  intro p e s m args below meth c A ls hx hb hr hml hown hts hlocks hnm hsz hA hG hP hD hS hl
  have hK := hG.1
  have hl : lv_has ls 1 [(0, .ref aA)] := hl
  refine lv_aload_n hx hb dX0_accWord_0 rfl (lv_at hl 0 rfl) ?_
  refine va_get (D := D) (ci := 0) (v := .int sA) (C := RX0) (T := TX0) (N := 5) hx hb hts iX0_accWord_X0 hown hK hP 0 rfl rfl 0 (by decide) (hts (.fieldLink RX0 9 "TapeCalculator$Arithmetic" "accSign" "I") (List.mem_of_getElem? (i := 1) rfl)) (fun _ h9 => h9) rfl dX0_accWord_1 ?_
  refine lv_aload_n hx hb dX0_accWord_4 rfl (lv_at hl 0 rfl) ?_
  refine va_get (D := D) (ci := 0) (v := .long zA) (C := RX0) (T := TX0) (N := 5) hx hb hts iX0_accWord_X0 hown hK hP 0 rfl rfl 1 (by decide) (hts (.fieldLink RX0 15 "TapeCalculator$Arithmetic" "accSize" "J") (List.mem_of_getElem? (i := 2) rfl)) (fun _ h9 => h9) rfl dX0_accWord_5 ?_
  refine kCallL (wr := [(aA, .inr (0, [.int sA, .long zA, .int sM, .long zM, .int vO]))]) (va_runSN (As := [.int sA, .long zA]) (rest := []) ⟨hx, hb, hml, hown, hts⟩ (g_wordOf l D cI cL cB cZ cT _ sA zA) ⟨va_cnB 2 hts gX0_accWord_X7_wordOf_n19 rfl rfl rfl hG.2.2.1 (hts (.initialized RX7) (List.mem_of_getElem? (i := 4) rfl)) (by decide +kernel) ⟨Nat.le_of_ble_eq_true rfl, Nat.le_of_ble_eq_true rfl⟩, hts (.static yX7_wordOf) (by decide +kernel), trivial⟩ (kPreS hG hP hD [] rfl (by decide)) rfl rfl hl.1 rfl (lv_room (Nat.le_of_ble_eq_true rfl)) dX0_accWord_8 ⟨Nat.le_of_ble_eq_true rfl, Nat.le_of_ble_eq_true rfl⟩) hA hP hD hS [] [0] rfl rfl (by decide) (by decide) (fun r_1 u_r_1 H locs wr_1 hP hD hS => ?_)
  have hP : va_P D vwCl [(aA, .inr (0, [.int sA, .long zA, .int sM, .long zM, .int vO]))] H := hP
  have hD : va_D A [(aA, .inr (0, [.int sA, .long zA, .int sM, .long zM, .int vO]))] := hD
  try dsimp only at wr_1
  refine kLret (u := ()) hx hb hr hlocks hS dX0_accWord_11 ?_ (hP.sub [0] rfl) (hD.sub [0] (by decide) rfl)
  exact trivial
set_option maxRecDepth 100000 in
theorem iX0_mqWord_X0 : ∀ w ∈ wsX00, w ∈ wsX0_mqWord := fun w h => (goodIn_r (big := wsX0_mqWord) wsX00 [7, 8, 9, 10, 11] rfl (by decide +kernel) w h).1
set_option maxRecDepth 100000 in
set_option maxHeartbeats 4000000 in
theorem g_mqWord (l : Launch) (D : va_G) (cI cL cB cZ cT : ClassId) (sz : Nat) (aA : Nat) (sA : Int32) (zA : Int64) (sM : Int32) (zM : Int64) (vO : Int32) : kM (S := Unit) l yX0_mqWord wsX0_mqWord ({ frames := 1, cells := 0, slots := 0, locals := 22 }) D (kT cI cL cB cZ cT) [.ref aA] [(aA, .inr (0, [.int sA, .long zA, .int sM, .long zM, .int vO]))] sz eL (fun _ _ => True) (fun _ => [(aA, .inr (0, [.int sA, .long zA, .int sM, .long zM, .int vO]))]) 0 0 := by
  refine kStart (cc := cX0_mqWord) (maxL := 1) (ret := (some .long)) (own := RX0) (by decide) rfl rfl (Nat.le_of_ble_eq_true rfl) ?_
  intro p e s m args below meth c A ls hx hb hr hml hown hts hlocks hnm hsz hA hG hP hD hS hl
  have hK := hG.1
  have hl : lv_has ls 1 [(0, .ref aA)] := hl
  refine lv_aload_n hx hb dX0_mqWord_0 rfl (lv_at hl 0 rfl) ?_
  refine va_get (D := D) (ci := 0) (v := .int sM) (C := RX0) (T := TX0) (N := 5) hx hb hts iX0_mqWord_X0 hown hK hP 0 rfl rfl 2 (by decide) (hts (.fieldLink RX0 23 "TapeCalculator$Arithmetic" "mqSign" "I") (List.mem_of_getElem? (i := 1) rfl)) (fun _ h9 => h9) rfl dX0_mqWord_1 ?_
  refine lv_aload_n hx hb dX0_mqWord_4 rfl (lv_at hl 0 rfl) ?_
  refine va_get (D := D) (ci := 0) (v := .long zM) (C := RX0) (T := TX0) (N := 5) hx hb hts iX0_mqWord_X0 hown hK hP 0 rfl rfl 3 (by decide) (hts (.fieldLink RX0 26 "TapeCalculator$Arithmetic" "mqSize" "J") (List.mem_of_getElem? (i := 2) rfl)) (fun _ h9 => h9) rfl dX0_mqWord_5 ?_
  refine kCallL (wr := [(aA, .inr (0, [.int sA, .long zA, .int sM, .long zM, .int vO]))]) (va_runSN (As := [.int sM, .long zM]) (rest := []) ⟨hx, hb, hml, hown, hts⟩ (g_wordOf l D cI cL cB cZ cT _ sM zM) ⟨va_cnB 2 hts gX0_mqWord_X7_wordOf_n19 rfl rfl rfl hG.2.2.1 (hts (.initialized RX7) (List.mem_of_getElem? (i := 4) rfl)) (by decide +kernel) ⟨Nat.le_of_ble_eq_true rfl, Nat.le_of_ble_eq_true rfl⟩, hts (.static yX7_wordOf) (by decide +kernel), trivial⟩ (kPreS hG hP hD [] rfl (by decide)) rfl rfl hl.1 rfl (lv_room (Nat.le_of_ble_eq_true rfl)) dX0_mqWord_8 ⟨Nat.le_of_ble_eq_true rfl, Nat.le_of_ble_eq_true rfl⟩) hA hP hD hS [] [0] rfl rfl (by decide) (by decide) (fun r_1 u_r_1 H locs wr_1 hP hD hS => ?_)
  have hP : va_P D vwCl [(aA, .inr (0, [.int sA, .long zA, .int sM, .long zM, .int vO]))] H := hP
  have hD : va_D A [(aA, .inr (0, [.int sA, .long zA, .int sM, .long zM, .int vO]))] := hD
  try dsimp only at wr_1
  refine kLret (u := ()) hx hb hr hlocks hS dX0_mqWord_11 ?_ (hP.sub [0] rfl) (hD.sub [0] (by decide) rfl)
  exact trivial
set_option maxRecDepth 100000 in
theorem iX0_addSize_X0 : ∀ w ∈ wsX00, w ∈ wsX0_addSize := fun w h => (goodIn_r (big := wsX0_addSize) wsX00 [5, 6, 7, 8, 9] rfl (by decide +kernel) w h).1
set_option maxRecDepth 100000 in
set_option maxHeartbeats 4000000 in
theorem g_addSize (l : Launch) (D : va_G) (cI cL cB cZ cT : ClassId) (sz : Nat) (aA : Nat) (sA : Int32) (zA : Int64) (sM : Int32) (zM : Int64) (vO : Int32) (v : Int64) : kM (S := (Int64 × Int32)) l yX0_addSize wsX0_addSize ({ frames := 0, cells := 0, slots := 0, locals := 0 }) D (kT cI cL cB cZ cT) [.ref aA, .long v] [(aA, .inr (0, [.int sA, .long zA, .int sM, .long zM, .int vO]))] sz eV (fun _ _ => True) (fun u => [(aA, .inr (0, [.int sA, .long u.1, .int sM, .long zM, .int u.2]))]) 0 0 := by
  refine kStart (cc := cX0_addSize) (maxL := 3) (ret := none) (own := RX0) (by decide) rfl rfl (Nat.le_of_ble_eq_true rfl) ?_
  intro p e s m args below meth c A ls hx hb hr hml hown hts hlocks hnm hsz hA hG hP hD hS hl
  have hK := hG.1
  have hl : lv_has ls 3 [(0, .ref aA), (1, .long v)] := hl
  refine lv_aload_n hx hb dX0_addSize_0 rfl (lv_at hl 0 rfl) ?_
  refine va_get (D := D) (ci := 0) (v := .long zA) (C := RX0) (T := TX0) (N := 5) hx hb hts iX0_addSize_X0 hown hK hP 0 rfl rfl 1 (by decide) (hts (.fieldLink RX0 15 "TapeCalculator$Arithmetic" "accSize" "J") (List.mem_of_getElem? (i := 1) rfl)) (fun _ h9 => h9) rfl dX0_addSize_1 ?_
  refine lv_ldc2 (v := 34359738367) hx hb hown (hts (.constantLong RX0 29 (34359738367)) (List.mem_of_getElem? (i := 2) rfl)) dX0_addSize_4 ?_
  refine lv_land hx hb dX0_addSize_7 ?_
  refine lv_lload_n hx hb dX0_addSize_8 rfl (lv_at hl 1 rfl) ?_
  refine lv_ladd hx hb dX0_addSize_9 ?_
  refine lv_ldc2 (v := 34359738367) hx hb hown (hts (.constantLong RX0 29 (34359738367)) (List.mem_of_getElem? (i := 2) rfl)) dX0_addSize_10 ?_
  refine W.lcmp hx hb dX0_addSize_13 ?_
  refine lv_if_le (tgt := 22) hx hb dX0_addSize_14 (by decide) (fun c_14_0 => ?_) (fun c_14_0 => ?_)
  · have t_14_0 := c_14_0
    try simp only [kb_eq0, kb_ne0, lg_cmp_lt, lg_cmp_le, lg_cmp_gt, lg_cmp_ge, lg_cmp_eq] at t_14_0
    try simp only [Int32.lt_iff_toInt_lt, Int32.le_iff_toInt_le, ← Int32.toInt_inj, Int64.lt_iff_toInt_lt, Int64.le_iff_toInt_le, ← Int64.toInt_inj, Int32.toInt_toInt64, Int32.reduceToInt, Int64.reduceToInt] at t_14_0
    refine lv_aload_n hx hb dX0_addSize_22 rfl (lv_at hl 0 rfl) ?_
    refine lv_aload_n hx hb dX0_addSize_23 rfl (lv_at hl 0 rfl) ?_
    refine va_get (D := D) (ci := 0) (v := .long zA) (C := RX0) (T := TX0) (N := 5) hx hb hts iX0_addSize_X0 hown hK hP 0 rfl rfl 1 (by decide) (hts (.fieldLink RX0 15 "TapeCalculator$Arithmetic" "accSize" "J") (List.mem_of_getElem? (i := 1) rfl)) (fun _ h9 => h9) rfl dX0_addSize_24 ?_
    refine lv_lload_n hx hb dX0_addSize_27 rfl (lv_at hl 1 rfl) ?_
    refine lv_ladd hx hb dX0_addSize_28 ?_
    refine lv_ldc2 (v := 137438953471) hx hb hown (hts (.constantLong RX0 56 (137438953471)) (List.mem_of_getElem? (i := 4) rfl)) dX0_addSize_29 ?_
    refine lv_land hx hb dX0_addSize_32 ?_
    refine lv_topl (fun x_2 ex_2 => ?_)
    refine va_put (D := D) (ci := 0) (v := .long x_2) (ty := .long) (C := RX0) (T := TX0) (N := 5) hx hb hts iX0_addSize_X0 tyX0 tyX0_ok nmX0 hown hK hP hD hS 0 rfl rfl 1 (by decide) (hts (.fieldLink RX0 15 "TapeCalculator$Arithmetic" "accSize" "J") (List.mem_of_getElem? (i := 1) rfl)) (fun _ h9 => h9) rfl (by decide +kernel) rfl rfl (Nat.le_of_ble_eq_true rfl) dX0_addSize_33 (fun H locs hP hD hS => ?_)
    have hP : va_P D vwCl [(aA, .inr (0, [.int sA, .long x_2, .int sM, .long zM, .int vO]))] H := hP
    have hD : va_D A [(aA, .inr (0, [.int sA, .long x_2, .int sM, .long zM, .int vO]))] := hD
    refine kVret (u := (x_2, vO)) hx hb hr hlocks hS dX0_addSize_36 ?_ (hP.sub [0] rfl) (hD.sub [0] (by decide) rfl)
    exact trivial
  · have t_14_0 := c_14_0
    try simp only [kb_eq0, kb_ne0, lg_cmp_lt, lg_cmp_le, lg_cmp_gt, lg_cmp_ge, lg_cmp_eq] at t_14_0
    try simp only [Int32.lt_iff_toInt_lt, Int32.le_iff_toInt_le, ← Int32.toInt_inj, Int64.lt_iff_toInt_lt, Int64.le_iff_toInt_le, ← Int64.toInt_inj, Int32.toInt_toInt64, Int32.reduceToInt, Int64.reduceToInt] at t_14_0
    refine lv_aload_n hx hb dX0_addSize_17 rfl (lv_at hl 0 rfl) ?_
    refine lv_iconst (v := 1) hx hb dX0_addSize_18 (by decide) ?_
    refine va_put (D := D) (ci := 0) (v := .int 1) (ty := .boolean) (C := RX0) (T := TX0) (N := 5) hx hb hts iX0_addSize_X0 tyX0 tyX0_ok nmX0 hown hK hP hD hS 0 rfl rfl 4 (by decide) (hts (.fieldLink RX0 52 "TapeCalculator$Arithmetic" "over" "Z") (List.mem_of_getElem? (i := 3) rfl)) (fun _ h9 => h9) rfl (by decide +kernel) rfl rfl (Nat.le_of_ble_eq_true rfl) dX0_addSize_19 (fun H locs hP hD hS => ?_)
    have hP : va_P D vwCl [(aA, .inr (0, [.int sA, .long zA, .int sM, .long zM, .int 1]))] H := hP
    have hD : va_D A [(aA, .inr (0, [.int sA, .long zA, .int sM, .long zM, .int 1]))] := hD
    refine lv_aload_n hx hb dX0_addSize_22 rfl (lv_at hl 0 rfl) ?_
    refine lv_aload_n hx hb dX0_addSize_23 rfl (lv_at hl 0 rfl) ?_
    refine va_get (D := D) (ci := 0) (v := .long zA) (C := RX0) (T := TX0) (N := 5) hx hb hts iX0_addSize_X0 hown hK hP 0 rfl rfl 1 (by decide) (hts (.fieldLink RX0 15 "TapeCalculator$Arithmetic" "accSize" "J") (List.mem_of_getElem? (i := 1) rfl)) (fun _ h9 => h9) rfl dX0_addSize_24 ?_
    refine lv_lload_n hx hb dX0_addSize_27 rfl (lv_at hl 1 rfl) ?_
    refine lv_ladd hx hb dX0_addSize_28 ?_
    refine lv_ldc2 (v := 137438953471) hx hb hown (hts (.constantLong RX0 56 (137438953471)) (List.mem_of_getElem? (i := 4) rfl)) dX0_addSize_29 ?_
    refine lv_land hx hb dX0_addSize_32 ?_
    refine lv_topl (fun x_3 ex_3 => ?_)
    refine va_put (D := D) (ci := 0) (v := .long x_3) (ty := .long) (C := RX0) (T := TX0) (N := 5) hx hb hts iX0_addSize_X0 tyX0 tyX0_ok nmX0 hown hK hP hD hS 0 rfl rfl 1 (by decide) (hts (.fieldLink RX0 15 "TapeCalculator$Arithmetic" "accSize" "J") (List.mem_of_getElem? (i := 1) rfl)) (fun _ h9 => h9) rfl (by decide +kernel) rfl rfl (Nat.le_of_ble_eq_true rfl) dX0_addSize_33 (fun H locs hP hD hS => ?_)
    have hP : va_P D vwCl [(aA, .inr (0, [.int sA, .long x_3, .int sM, .long zM, .int 1]))] H := hP
    have hD : va_D A [(aA, .inr (0, [.int sA, .long x_3, .int sM, .long zM, .int 1]))] := hD
    refine kVret (u := (x_3, 1)) hx hb hr hlocks hS dX0_addSize_36 ?_ (hP.sub [0] rfl) (hD.sub [0] (by decide) rfl)
    exact trivial
set_option maxRecDepth 100000 in
theorem iX0_addSigned_X0 : ∀ w ∈ wsX00, w ∈ wsX0_addSigned := fun w h => (goodIn_r (big := wsX0_addSigned) wsX00 [11, 12, 13, 14, 15] rfl (by decide +kernel) w h).1
set_option maxRecDepth 100000 in
set_option maxHeartbeats 4000000 in
theorem g_addSigned (l : Launch) (D : va_G) (cI cL cB cZ cT : ClassId) (sz : Nat) (aA : Nat) (sA : Int32) (zA : Int64) (sM : Int32) (zM : Int64) (vO : Int32) (g : Int32) (v : Int64) : kM (S := (Int32 × Int64 × Int32)) l yX0_addSigned wsX0_addSigned ({ frames := 1, cells := 0, slots := 0, locals := 22 }) D (kT cI cL cB cZ cT) [.ref aA, .int g, .long v] [(aA, .inr (0, [.int sA, .long zA, .int sM, .long zM, .int vO]))] sz eV (fun _ _ => True) (fun u => [(aA, .inr (0, [.int u.1, .long u.2.1, .int sM, .long zM, .int u.2.2]))]) 0 0 := by
  refine kStart (cc := cX0_addSigned) (maxL := 4) (ret := none) (own := RX0) (by decide) rfl rfl (Nat.le_of_ble_eq_true rfl) ?_
  intro p e s m args below meth c A ls hx hb hr hml hown hts hlocks hnm hsz hA hG hP hD hS hl
  have hK := hG.1
  have hl : lv_has ls 4 [(0, .ref aA), (1, .int g), (2, .long v)] := hl
  refine lv_iload_n hx hb dX0_addSigned_0 rfl (lv_at hl 1 rfl) ?_
  refine lv_aload_n hx hb dX0_addSigned_1 rfl (lv_at hl 0 rfl) ?_
  refine va_get (D := D) (ci := 0) (v := .int sA) (C := RX0) (T := TX0) (N := 5) hx hb hts iX0_addSigned_X0 hown hK hP 0 rfl rfl 0 (by decide) (hts (.fieldLink RX0 9 "TapeCalculator$Arithmetic" "accSign" "I") (List.mem_of_getElem? (i := 1) rfl)) (fun _ h9 => h9) rfl dX0_addSigned_2 ?_
  refine lv_icmp_ne (tgt := 16) hx hb dX0_addSigned_5 (by decide) (fun c_5_0 => ?_) (fun c_5_0 => ?_)
  · have t_5_0 := c_5_0
    try simp only [kb_eq0, kb_ne0, lg_cmp_lt, lg_cmp_le, lg_cmp_gt, lg_cmp_ge, lg_cmp_eq] at t_5_0
    try simp only [Int32.lt_iff_toInt_lt, Int32.le_iff_toInt_le, ← Int32.toInt_inj, Int64.lt_iff_toInt_lt, Int64.le_iff_toInt_le, ← Int64.toInt_inj, Int32.toInt_toInt64, Int32.reduceToInt, Int64.reduceToInt] at t_5_0
    refine lv_lload_n hx hb dX0_addSigned_16 rfl (lv_at hl 2 rfl) ?_
    refine lv_aload_n hx hb dX0_addSigned_17 rfl (lv_at hl 0 rfl) ?_
    refine va_get (D := D) (ci := 0) (v := .long zA) (C := RX0) (T := TX0) (N := 5) hx hb hts iX0_addSigned_X0 hown hK hP 0 rfl rfl 1 (by decide) (hts (.fieldLink RX0 15 "TapeCalculator$Arithmetic" "accSize" "J") (List.mem_of_getElem? (i := 2) rfl)) (fun _ h9 => h9) rfl dX0_addSigned_18 ?_
    refine W.lcmp hx hb dX0_addSigned_21 ?_
    refine lv_if_le (tgt := 43) hx hb dX0_addSigned_22 (by decide) (fun c_22_1 => ?_) (fun c_22_1 => ?_)
    · have t_22_1 := c_22_1
      try simp only [kb_eq0, kb_ne0, lg_cmp_lt, lg_cmp_le, lg_cmp_gt, lg_cmp_ge, lg_cmp_eq] at t_22_1
      try simp only [Int32.lt_iff_toInt_lt, Int32.le_iff_toInt_le, ← Int32.toInt_inj, Int64.lt_iff_toInt_lt, Int64.le_iff_toInt_le, ← Int64.toInt_inj, Int32.toInt_toInt64, Int32.reduceToInt, Int64.reduceToInt] at t_22_1
      refine lv_aload_n hx hb dX0_addSigned_43 rfl (lv_at hl 0 rfl) ?_
      refine lv_dup hx hb dX0_addSigned_44 rfl ?_
      refine va_get (D := D) (ci := 0) (v := .long zA) (C := RX0) (T := TX0) (N := 5) hx hb hts iX0_addSigned_X0 hown hK hP 0 rfl rfl 1 (by decide) (hts (.fieldLink RX0 15 "TapeCalculator$Arithmetic" "accSize" "J") (List.mem_of_getElem? (i := 2) rfl)) (fun _ h9 => h9) rfl dX0_addSigned_45 ?_
      refine lv_lload_n hx hb dX0_addSigned_48 rfl (lv_at hl 2 rfl) ?_
      refine lv_lsub hx hb dX0_addSigned_49 ?_
      refine lv_topl (fun x_3 ex_3 => ?_)
      refine va_put (D := D) (ci := 0) (v := .long x_3) (ty := .long) (C := RX0) (T := TX0) (N := 5) hx hb hts iX0_addSigned_X0 tyX0 tyX0_ok nmX0 hown hK hP hD hS 0 rfl rfl 1 (by decide) (hts (.fieldLink RX0 15 "TapeCalculator$Arithmetic" "accSize" "J") (List.mem_of_getElem? (i := 2) rfl)) (fun _ h9 => h9) rfl (by decide +kernel) rfl rfl (Nat.le_of_ble_eq_true rfl) dX0_addSigned_50 (fun H locs hP hD hS => ?_)
      have hP : va_P D vwCl [(aA, .inr (0, [.int sA, .long x_3, .int sM, .long zM, .int vO]))] H := hP
      have hD : va_D A [(aA, .inr (0, [.int sA, .long x_3, .int sM, .long zM, .int vO]))] := hD
      refine kVret (u := (sA, x_3, vO)) hx hb hr hlocks hS dX0_addSigned_53 ?_ (hP.sub [0] rfl) (hD.sub [0] (by decide) rfl)
      exact trivial
    · have t_22_1 := c_22_1
      try simp only [kb_eq0, kb_ne0, lg_cmp_lt, lg_cmp_le, lg_cmp_gt, lg_cmp_ge, lg_cmp_eq] at t_22_1
      try simp only [Int32.lt_iff_toInt_lt, Int32.le_iff_toInt_le, ← Int32.toInt_inj, Int64.lt_iff_toInt_lt, Int64.le_iff_toInt_le, ← Int64.toInt_inj, Int32.toInt_toInt64, Int32.reduceToInt, Int64.reduceToInt] at t_22_1
      refine lv_aload_n hx hb dX0_addSigned_25 rfl (lv_at hl 0 rfl) ?_
      refine lv_lload_n hx hb dX0_addSigned_26 rfl (lv_at hl 2 rfl) ?_
      refine lv_aload_n hx hb dX0_addSigned_27 rfl (lv_at hl 0 rfl) ?_
      refine va_get (D := D) (ci := 0) (v := .long zA) (C := RX0) (T := TX0) (N := 5) hx hb hts iX0_addSigned_X0 hown hK hP 0 rfl rfl 1 (by decide) (hts (.fieldLink RX0 15 "TapeCalculator$Arithmetic" "accSize" "J") (List.mem_of_getElem? (i := 2) rfl)) (fun _ h9 => h9) rfl dX0_addSigned_28 ?_
      refine lv_lsub hx hb dX0_addSigned_31 ?_
      refine lv_topl (fun x_4 ex_4 => ?_)
      refine va_put (D := D) (ci := 0) (v := .long x_4) (ty := .long) (C := RX0) (T := TX0) (N := 5) hx hb hts iX0_addSigned_X0 tyX0 tyX0_ok nmX0 hown hK hP hD hS 0 rfl rfl 1 (by decide) (hts (.fieldLink RX0 15 "TapeCalculator$Arithmetic" "accSize" "J") (List.mem_of_getElem? (i := 2) rfl)) (fun _ h9 => h9) rfl (by decide +kernel) rfl rfl (Nat.le_of_ble_eq_true rfl) dX0_addSigned_32 (fun H locs hP hD hS => ?_)
      have hP : va_P D vwCl [(aA, .inr (0, [.int sA, .long x_4, .int sM, .long zM, .int vO]))] H := hP
      have hD : va_D A [(aA, .inr (0, [.int sA, .long x_4, .int sM, .long zM, .int vO]))] := hD
      refine lv_aload_n hx hb dX0_addSigned_35 rfl (lv_at hl 0 rfl) ?_
      refine lv_iload_n hx hb dX0_addSigned_36 rfl (lv_at hl 1 rfl) ?_
      refine va_put (D := D) (ci := 0) (v := .int g) (ty := .int) (C := RX0) (T := TX0) (N := 5) hx hb hts iX0_addSigned_X0 tyX0 tyX0_ok nmX0 hown hK hP hD hS 0 rfl rfl 0 (by decide) (hts (.fieldLink RX0 9 "TapeCalculator$Arithmetic" "accSign" "I") (List.mem_of_getElem? (i := 1) rfl)) (fun _ h9 => h9) rfl (by decide +kernel) rfl rfl (Nat.le_of_ble_eq_true rfl) dX0_addSigned_37 (fun H locs hP hD hS => ?_)
      have hP : va_P D vwCl [(aA, .inr (0, [.int g, .long x_4, .int sM, .long zM, .int vO]))] H := hP
      have hD : va_D A [(aA, .inr (0, [.int g, .long x_4, .int sM, .long zM, .int vO]))] := hD
      refine lv_goto (tgt := 53) hx hb dX0_addSigned_40 (by decide) ?_
      refine kVret (u := (g, x_4, vO)) hx hb hr hlocks hS dX0_addSigned_53 ?_ (hP.sub [0] rfl) (hD.sub [0] (by decide) rfl)
      exact trivial
  · have t_5_0 := c_5_0
    try simp only [kb_eq0, kb_ne0, lg_cmp_lt, lg_cmp_le, lg_cmp_gt, lg_cmp_ge, lg_cmp_eq] at t_5_0
    try simp only [Int32.lt_iff_toInt_lt, Int32.le_iff_toInt_le, ← Int32.toInt_inj, Int64.lt_iff_toInt_lt, Int64.le_iff_toInt_le, ← Int64.toInt_inj, Int32.toInt_toInt64, Int32.reduceToInt, Int64.reduceToInt] at t_5_0
    refine lv_aload_n hx hb dX0_addSigned_8 rfl (lv_at hl 0 rfl) ?_
    refine lv_lload_n hx hb dX0_addSigned_9 rfl (lv_at hl 2 rfl) ?_
    refine kCallVd (wr := []) (va_runV (As := [.long v]) (rest := []) ⟨hx, hb, hml, hown, hts⟩ (g_addSize l D cI cL cB cZ cT _ aA sA zA sM zM vO v) (cwV 1 hts gX0_addSigned_X0_addSize rfl rfl rfl (by decide +kernel) ⟨Nat.le_of_ble_eq_true rfl, Nat.le_of_ble_eq_true rfl⟩) (kPreV hG hP hD [0] rfl (by decide) 0 0 rfl rfl rfl) rfl rfl hl.1 rfl (lv_room (Nat.le_of_ble_eq_true rfl)) dX0_addSigned_10 ⟨Nat.le_of_ble_eq_true rfl, Nat.le_of_ble_eq_true rfl⟩) hA hP hD hS [0] [] rfl rfl (by decide) (by decide) (fun _ u_r_5 H locs wr_5 hP hD hS => ?_)
    have hP : va_P D vwCl [(aA, .inr (0, [.int sA, .long u_r_5.1, .int sM, .long zM, .int u_r_5.2]))] H := hP
    have hD : va_D A [(aA, .inr (0, [.int sA, .long u_r_5.1, .int sM, .long zM, .int u_r_5.2]))] := hD
    try dsimp only at wr_5
    refine lv_goto (tgt := 53) hx hb dX0_addSigned_13 (by decide) ?_
    refine kVret (u := (sA, u_r_5.1, u_r_5.2)) hx hb hr hlocks hS dX0_addSigned_53 ?_ (hP.sub [0] rfl) (hD.sub [0] (by decide) rfl)
    exact trivial
set_option maxRecDepth 100000 in
theorem iX0_loadAcc_X0 : ∀ w ∈ wsX00, w ∈ wsX0_loadAcc := fun w h => (goodIn_r (big := wsX0_loadAcc) wsX00 [3, 4, 5, 6, 7] rfl (by decide +kernel) w h).1
set_option maxRecDepth 100000 in
set_option maxHeartbeats 4000000 in
theorem g_loadAcc (l : Launch) (D : va_G) (cI cL cB cZ cT : ClassId) (sz : Nat) (aA : Nat) (sA : Int32) (zA : Int64) (sM : Int32) (zM : Int64) (vO : Int32) (g : Int32) (v : Int64) : kM (S := (Int32 × Int64)) l yX0_loadAcc wsX0_loadAcc ({ frames := 0, cells := 0, slots := 0, locals := 0 }) D (kT cI cL cB cZ cT) [.ref aA, .int g, .long v] [(aA, .inr (0, [.int sA, .long zA, .int sM, .long zM, .int vO]))] sz eV (fun _ _ => True) (fun u => [(aA, .inr (0, [.int u.1, .long u.2, .int sM, .long zM, .int vO]))]) 0 0 := by
  refine kStart (cc := cX0_loadAcc) (maxL := 4) (ret := none) (own := RX0) (by decide) rfl rfl (Nat.le_of_ble_eq_true rfl) ?_
  intro p e s m args below meth c A ls hx hb hr hml hown hts hlocks hnm hsz hA hG hP hD hS hl
  have hK := hG.1
  have hl : lv_has ls 4 [(0, .ref aA), (1, .int g), (2, .long v)] := hl
  refine lv_aload_n hx hb dX0_loadAcc_0 rfl (lv_at hl 0 rfl) ?_
  refine lv_iload_n hx hb dX0_loadAcc_1 rfl (lv_at hl 1 rfl) ?_
  refine va_put (D := D) (ci := 0) (v := .int g) (ty := .int) (C := RX0) (T := TX0) (N := 5) hx hb hts iX0_loadAcc_X0 tyX0 tyX0_ok nmX0 hown hK hP hD hS 0 rfl rfl 0 (by decide) (hts (.fieldLink RX0 9 "TapeCalculator$Arithmetic" "accSign" "I") (List.mem_of_getElem? (i := 1) rfl)) (fun _ h9 => h9) rfl (by decide +kernel) rfl rfl (Nat.le_of_ble_eq_true rfl) dX0_loadAcc_2 (fun H locs hP hD hS => ?_)
  have hP : va_P D vwCl [(aA, .inr (0, [.int g, .long zA, .int sM, .long zM, .int vO]))] H := hP
  have hD : va_D A [(aA, .inr (0, [.int g, .long zA, .int sM, .long zM, .int vO]))] := hD
  refine lv_aload_n hx hb dX0_loadAcc_5 rfl (lv_at hl 0 rfl) ?_
  refine lv_lload_n hx hb dX0_loadAcc_6 rfl (lv_at hl 2 rfl) ?_
  refine va_put (D := D) (ci := 0) (v := .long v) (ty := .long) (C := RX0) (T := TX0) (N := 5) hx hb hts iX0_loadAcc_X0 tyX0 tyX0_ok nmX0 hown hK hP hD hS 0 rfl rfl 1 (by decide) (hts (.fieldLink RX0 15 "TapeCalculator$Arithmetic" "accSize" "J") (List.mem_of_getElem? (i := 2) rfl)) (fun _ h9 => h9) rfl (by decide +kernel) rfl rfl (Nat.le_of_ble_eq_true rfl) dX0_loadAcc_7 (fun H locs hP hD hS => ?_)
  have hP : va_P D vwCl [(aA, .inr (0, [.int g, .long v, .int sM, .long zM, .int vO]))] H := hP
  have hD : va_D A [(aA, .inr (0, [.int g, .long v, .int sM, .long zM, .int vO]))] := hD
  refine kVret (u := (g, v)) hx hb hr hlocks hS dX0_loadAcc_10 ?_ (hP.sub [0] rfl) (hD.sub [0] (by decide) rfl)
  exact trivial
set_option maxRecDepth 100000 in
theorem iX0_times_X0 : ∀ w ∈ wsX00, w ∈ wsX0_times := fun w h => (goodIn_r (big := wsX0_times) wsX00 [7, 8, 9, 10, 11] rfl (by decide +kernel) w h).1
set_option maxRecDepth 100000 in
set_option maxHeartbeats 4000000 in
theorem g_times (l : Launch) (D : va_G) (cI cL cB cZ cT : ClassId) (sz : Nat) (aA : Nat) (sA : Int32) (zA : Int64) (sM : Int32) (zM : Int64) (vO : Int32) (g : Int32) (v : Int64) : kM (S := (Int32 × Int64 × Int32 × Int64)) l yX0_times wsX0_times ({ frames := 0, cells := 0, slots := 0, locals := 0 }) D (kT cI cL cB cZ cT) [.ref aA, .int g, .long v] [(aA, .inr (0, [.int sA, .long zA, .int sM, .long zM, .int vO]))] sz eV (fun _ _ => True) (fun u => [(aA, .inr (0, [.int u.1, .long u.2.1, .int u.2.2.1, .long u.2.2.2, .int vO]))]) 0 0 := by
  refine kStart (cc := cX0_times) (maxL := 8) (ret := none) (own := RX0) (by decide) rfl rfl (Nat.le_of_ble_eq_true rfl) ?_
  intro p e s m args below meth c A ls hx hb hr hml hown hts hlocks hnm hsz hA hG hP hD hS hl
  have hK := hG.1
  have hl : lv_has ls 8 [(0, .ref aA), (1, .int g), (2, .long v)] := hl
  refine lv_aload_n hx hb dX0_times_0 rfl (lv_at hl 0 rfl) ?_
  refine va_get (D := D) (ci := 0) (v := .long zM) (C := RX0) (T := TX0) (N := 5) hx hb hts iX0_times_X0 hown hK hP 0 rfl rfl 3 (by decide) (hts (.fieldLink RX0 26 "TapeCalculator$Arithmetic" "mqSize" "J") (List.mem_of_getElem? (i := 1) rfl)) (fun _ h9 => h9) rfl dX0_times_1 ?_
  refine lv_lload_n hx hb dX0_times_4 rfl (lv_at hl 2 rfl) ?_
  refine lv_ldc2 (v := 262143) hx hb hown (hts (.constantLong RX0 58 (262143)) (List.mem_of_getElem? (i := 2) rfl)) dX0_times_5 ?_
  refine lv_land hx hb dX0_times_8 ?_
  refine lv_lmul hx hb dX0_times_9 ?_
  refine lv_topl (fun x_1 ex_1 => ?_)
  refine lv_lstore (lv' := [(4, .long x_1), (0, .ref aA), (1, .int g), (2, .long v)]) hx hb dX0_times_10 hl (by decide) rfl (fun ls hl => ?_)
  refine lv_aload_n hx hb dX0_times_12 rfl (lv_at hl 1 rfl) ?_
  refine va_get (D := D) (ci := 0) (v := .long zM) (C := RX0) (T := TX0) (N := 5) hx hb hts iX0_times_X0 hown hK hP 0 rfl rfl 3 (by decide) (hts (.fieldLink RX0 26 "TapeCalculator$Arithmetic" "mqSize" "J") (List.mem_of_getElem? (i := 1) rfl)) (fun _ h9 => h9) rfl dX0_times_13 ?_
  refine lv_lload_n hx hb dX0_times_16 rfl (lv_at hl 3 rfl) ?_
  refine lv_bipush (v := 18) hx hb dX0_times_17 (by decide) ?_
  refine lv_lshr hx hb dX0_times_19 rfl ?_
  refine lv_lmul hx hb dX0_times_20 ?_
  refine lv_lload hx hb dX0_times_21 (lv_at hl 0 rfl) ?_
  refine lv_bipush (v := 18) hx hb dX0_times_23 (by decide) ?_
  refine lv_lshr hx hb dX0_times_25 rfl ?_
  refine lv_ladd hx hb dX0_times_26 ?_
  refine lv_topl (fun x_2 ex_2 => ?_)
  refine lv_lstore (lv' := [(6, .long x_2), (4, .long x_1), (0, .ref aA), (1, .int g), (2, .long v)]) hx hb dX0_times_27 hl (by decide) rfl (fun ls hl => ?_)
  refine lv_aload_n hx hb dX0_times_29 rfl (lv_at hl 2 rfl) ?_
  refine lv_lload hx hb dX0_times_30 (lv_at hl 0 rfl) ?_
  refine lv_bipush (v := 17) hx hb dX0_times_32 (by decide) ?_
  refine lv_lshr hx hb dX0_times_34 rfl ?_
  refine lv_topl (fun x_3 ex_3 => ?_)
  refine va_put (D := D) (ci := 0) (v := .long x_3) (ty := .long) (C := RX0) (T := TX0) (N := 5) hx hb hts iX0_times_X0 tyX0 tyX0_ok nmX0 hown hK hP hD hS 0 rfl rfl 1 (by decide) (hts (.fieldLink RX0 15 "TapeCalculator$Arithmetic" "accSize" "J") (List.mem_of_getElem? (i := 3) rfl)) (fun _ h9 => h9) rfl (by decide +kernel) rfl rfl (Nat.le_of_ble_eq_true rfl) dX0_times_35 (fun H locs hP hD hS => ?_)
  have hP : va_P D vwCl [(aA, .inr (0, [.int sA, .long x_3, .int sM, .long zM, .int vO]))] H := hP
  have hD : va_D A [(aA, .inr (0, [.int sA, .long x_3, .int sM, .long zM, .int vO]))] := hD
  refine lv_aload_n hx hb dX0_times_38 rfl (lv_at hl 2 rfl) ?_
  refine lv_lload hx hb dX0_times_39 (lv_at hl 0 rfl) ?_
  refine lv_ldc2 (v := 131071) hx hb hown (hts (.constantLong RX0 60 (131071)) (List.mem_of_getElem? (i := 4) rfl)) dX0_times_41 ?_
  refine lv_land hx hb dX0_times_44 ?_
  refine lv_bipush (v := 18) hx hb dX0_times_45 (by decide) ?_
  refine lv_lshl hx hb dX0_times_47 rfl ?_
  refine lv_lload hx hb dX0_times_48 (lv_at hl 1 rfl) ?_
  refine lv_ldc2 (v := 262143) hx hb hown (hts (.constantLong RX0 58 (262143)) (List.mem_of_getElem? (i := 2) rfl)) dX0_times_50 ?_
  refine lv_land hx hb dX0_times_53 ?_
  refine lv_lor hx hb dX0_times_54 ?_
  refine lv_topl (fun x_4 ex_4 => ?_)
  refine va_put (D := D) (ci := 0) (v := .long x_4) (ty := .long) (C := RX0) (T := TX0) (N := 5) hx hb hts iX0_times_X0 tyX0 tyX0_ok nmX0 hown hK hP hD hS 0 rfl rfl 3 (by decide) (hts (.fieldLink RX0 26 "TapeCalculator$Arithmetic" "mqSize" "J") (List.mem_of_getElem? (i := 1) rfl)) (fun _ h9 => h9) rfl (by decide +kernel) rfl rfl (Nat.le_of_ble_eq_true rfl) dX0_times_55 (fun H locs hP hD hS => ?_)
  have hP : va_P D vwCl [(aA, .inr (0, [.int sA, .long x_3, .int sM, .long x_4, .int vO]))] H := hP
  have hD : va_D A [(aA, .inr (0, [.int sA, .long x_3, .int sM, .long x_4, .int vO]))] := hD
  refine lv_aload_n hx hb dX0_times_58 rfl (lv_at hl 2 rfl) ?_
  refine lv_aload_n hx hb dX0_times_59 rfl (lv_at hl 2 rfl) ?_
  refine va_get (D := D) (ci := 0) (v := .int sM) (C := RX0) (T := TX0) (N := 5) hx hb hts iX0_times_X0 hown hK hP 0 rfl rfl 2 (by decide) (hts (.fieldLink RX0 23 "TapeCalculator$Arithmetic" "mqSign" "I") (List.mem_of_getElem? (i := 5) rfl)) (fun _ h9 => h9) rfl dX0_times_60 ?_
  refine lv_iload_n hx hb dX0_times_63 rfl (lv_at hl 3 rfl) ?_
  refine lv_ixor hx hb dX0_times_64 ?_
  refine lv_topi (fun x_5 ex_5 => ?_)
  refine va_put (D := D) (ci := 0) (v := .int x_5) (ty := .int) (C := RX0) (T := TX0) (N := 5) hx hb hts iX0_times_X0 tyX0 tyX0_ok nmX0 hown hK hP hD hS 0 rfl rfl 0 (by decide) (hts (.fieldLink RX0 9 "TapeCalculator$Arithmetic" "accSign" "I") (List.mem_of_getElem? (i := 6) rfl)) (fun _ h9 => h9) rfl (by decide +kernel) rfl rfl (Nat.le_of_ble_eq_true rfl) dX0_times_65 (fun H locs hP hD hS => ?_)
  have hP : va_P D vwCl [(aA, .inr (0, [.int x_5, .long x_3, .int sM, .long x_4, .int vO]))] H := hP
  have hD : va_D A [(aA, .inr (0, [.int x_5, .long x_3, .int sM, .long x_4, .int vO]))] := hD
  refine lv_aload_n hx hb dX0_times_68 rfl (lv_at hl 2 rfl) ?_
  refine lv_aload_n hx hb dX0_times_69 rfl (lv_at hl 2 rfl) ?_
  refine va_get (D := D) (ci := 0) (v := .int x_5) (C := RX0) (T := TX0) (N := 5) hx hb hts iX0_times_X0 hown hK hP 0 rfl rfl 0 (by decide) (hts (.fieldLink RX0 9 "TapeCalculator$Arithmetic" "accSign" "I") (List.mem_of_getElem? (i := 6) rfl)) (fun _ h9 => h9) rfl dX0_times_70 ?_
  refine va_put (D := D) (ci := 0) (v := .int x_5) (ty := .int) (C := RX0) (T := TX0) (N := 5) hx hb hts iX0_times_X0 tyX0 tyX0_ok nmX0 hown hK hP hD hS 0 rfl rfl 2 (by decide) (hts (.fieldLink RX0 23 "TapeCalculator$Arithmetic" "mqSign" "I") (List.mem_of_getElem? (i := 5) rfl)) (fun _ h9 => h9) rfl (by decide +kernel) rfl rfl (Nat.le_of_ble_eq_true rfl) dX0_times_73 (fun H locs hP hD hS => ?_)
  have hP : va_P D vwCl [(aA, .inr (0, [.int x_5, .long x_3, .int x_5, .long x_4, .int vO]))] H := hP
  have hD : va_D A [(aA, .inr (0, [.int x_5, .long x_3, .int x_5, .long x_4, .int vO]))] := hD
  refine kVret (u := (x_5, x_3, x_5, x_4)) hx hb hr hlocks hS dX0_times_76 ?_ (hP.sub [0] rfl) (hD.sub [0] (by decide) rfl)
  exact trivial
set_option maxRecDepth 100000 in
theorem iX0_round_X0 : ∀ w ∈ wsX00, w ∈ wsX0_round := fun w h => (goodIn_r (big := wsX0_round) wsX00 [11, 12, 13, 14, 15] rfl (by decide +kernel) w h).1
set_option maxRecDepth 100000 in
set_option maxHeartbeats 4000000 in
theorem g_round (l : Launch) (D : va_G) (cI cL cB cZ cT : ClassId) (sz : Nat) (aA : Nat) (sA : Int32) (zA : Int64) (sM : Int32) (zM : Int64) (vO : Int32) : kM (S := (Int64 × Int32)) l yX0_round wsX0_round ({ frames := 1, cells := 0, slots := 0, locals := 22 }) D (kT cI cL cB cZ cT) [.ref aA] [(aA, .inr (0, [.int sA, .long zA, .int sM, .long zM, .int vO]))] sz eV (fun _ _ => True) (fun u => [(aA, .inr (0, [.int sA, .long u.1, .int sM, .long zM, .int u.2]))]) 0 0 := by
  refine kStart (cc := cX0_round) (maxL := 1) (ret := none) (own := RX0) (by decide) rfl rfl (Nat.le_of_ble_eq_true rfl) ?_
  intro p e s m args below meth c A ls hx hb hr hml hown hts hlocks hnm hsz hA hG hP hD hS hl
  have hK := hG.1
  have hl : lv_has ls 1 [(0, .ref aA)] := hl
  refine lv_aload_n hx hb dX0_round_0 rfl (lv_at hl 0 rfl) ?_
  refine va_get (D := D) (ci := 0) (v := .long zM) (C := RX0) (T := TX0) (N := 5) hx hb hts iX0_round_X0 hown hK hP 0 rfl rfl 3 (by decide) (hts (.fieldLink RX0 26 "TapeCalculator$Arithmetic" "mqSize" "J") (List.mem_of_getElem? (i := 1) rfl)) (fun _ h9 => h9) rfl dX0_round_1 ?_
  refine lv_bipush (v := 34) hx hb dX0_round_4 (by decide) ?_
  refine lv_lshr hx hb dX0_round_6 rfl ?_
  refine lv_lconst (v := 0) hx hb dX0_round_7 (by decide) ?_
  refine W.lcmp hx hb dX0_round_8 ?_
  refine lv_if_eq (tgt := 17) hx hb dX0_round_9 (by decide) (fun c_9_0 => ?_) (fun c_9_0 => ?_)
  · have t_9_0 := c_9_0
    try simp only [kb_eq0, kb_ne0, lg_cmp_lt, lg_cmp_le, lg_cmp_gt, lg_cmp_ge, lg_cmp_eq] at t_9_0
    try simp only [Int32.lt_iff_toInt_lt, Int32.le_iff_toInt_le, ← Int32.toInt_inj, Int64.lt_iff_toInt_lt, Int64.le_iff_toInt_le, ← Int64.toInt_inj, Int32.toInt_toInt64, Int32.reduceToInt, Int64.reduceToInt] at t_9_0
    refine kVret (u := (zA, vO)) hx hb hr hlocks hS dX0_round_17 ?_ (hP.sub [0] rfl) (hD.sub [0] (by decide) rfl)
    exact trivial
  · have t_9_0 := c_9_0
    try simp only [kb_eq0, kb_ne0, lg_cmp_lt, lg_cmp_le, lg_cmp_gt, lg_cmp_ge, lg_cmp_eq] at t_9_0
    try simp only [Int32.lt_iff_toInt_lt, Int32.le_iff_toInt_le, ← Int32.toInt_inj, Int64.lt_iff_toInt_lt, Int64.le_iff_toInt_le, ← Int64.toInt_inj, Int32.toInt_toInt64, Int32.reduceToInt, Int64.reduceToInt] at t_9_0
    refine lv_aload_n hx hb dX0_round_12 rfl (lv_at hl 0 rfl) ?_
    refine lv_lconst (v := 1) hx hb dX0_round_13 (by decide) ?_
    refine kCallVd (wr := []) (va_runV (As := [.long 1]) (rest := []) ⟨hx, hb, hml, hown, hts⟩ (g_addSize l D cI cL cB cZ cT _ aA sA zA sM zM vO 1) (cwV 1 hts gX0_round_X0_addSize rfl rfl rfl (by decide +kernel) ⟨Nat.le_of_ble_eq_true rfl, Nat.le_of_ble_eq_true rfl⟩) (kPreV hG hP hD [0] rfl (by decide) 0 0 rfl rfl rfl) rfl rfl hl.1 rfl (lv_room (Nat.le_of_ble_eq_true rfl)) dX0_round_14 ⟨Nat.le_of_ble_eq_true rfl, Nat.le_of_ble_eq_true rfl⟩) hA hP hD hS [0] [] rfl rfl (by decide) (by decide) (fun _ u_r_2 H locs wr_2 hP hD hS => ?_)
    have hP : va_P D vwCl [(aA, .inr (0, [.int sA, .long u_r_2.1, .int sM, .long zM, .int u_r_2.2]))] H := hP
    have hD : va_D A [(aA, .inr (0, [.int sA, .long u_r_2.1, .int sM, .long zM, .int u_r_2.2]))] := hD
    try dsimp only at wr_2
    refine kVret (u := (u_r_2.1, u_r_2.2)) hx hb hr hlocks hS dX0_round_17 ?_ (hP.sub [0] rfl) (hD.sub [0] (by decide) rfl)
    exact trivial
set_option maxRecDepth 100000 in
theorem iX0_share_X0 : ∀ w ∈ wsX00, w ∈ wsX0_share := fun w h => (goodIn_r (big := wsX0_share) wsX00 [6, 7, 8, 9, 10] rfl (by decide +kernel) w h).1
set_option maxRecDepth 100000 in
set_option maxHeartbeats 4000000 in
theorem g_share (l : Launch) (D : va_G) (cI cL cB cZ cT : ClassId) (sz : Nat) (aA : Nat) (sA : Int32) (zA : Int64) (sM : Int32) (zM : Int64) (vO : Int32) (g : Int32) (v : Int64) : kM (S := (Int64 × Int32 × Int64)) l yX0_share wsX0_share ({ frames := 0, cells := 0, slots := 0, locals := 0 }) D (kT cI cL cB cZ cT) [.ref aA, .int g, .long v] [(aA, .inr (0, [.int sA, .long zA, .int sM, .long zM, .int vO]))] sz eI (fun r _ => r = 0 ∨ r = 1) (fun u => [(aA, .inr (0, [.int sA, .long u.1, .int u.2.1, .long u.2.2, .int vO]))]) 0 0 := by
  refine kStart (cc := cX0_share) (maxL := 8) (ret := (some .boolean)) (own := RX0) (by decide) rfl rfl (Nat.le_of_ble_eq_true rfl) ?_
  intro p e s m args below meth c A ls hx hb hr hml hown hts hlocks hnm hsz hA hG hP hD hS hl
  have hK := hG.1
  have hl : lv_has ls 8 [(0, .ref aA), (1, .int g), (2, .long v)] := hl
  refine lv_lload_n hx hb dX0_share_0 rfl (lv_at hl 2 rfl) ?_
  refine lv_lconst (v := 0) hx hb dX0_share_1 (by decide) ?_
  refine W.lcmp hx hb dX0_share_2 ?_
  refine lv_if_le (tgt := 15) hx hb dX0_share_3 (by decide) (fun c_3_0 => ?_) (fun c_3_0 => ?_)
  · have t_3_0 := c_3_0
    try simp only [kb_eq0, kb_ne0, lg_cmp_lt, lg_cmp_le, lg_cmp_gt, lg_cmp_ge, lg_cmp_eq] at t_3_0
    try simp only [Int32.lt_iff_toInt_lt, Int32.le_iff_toInt_le, ← Int32.toInt_inj, Int64.lt_iff_toInt_lt, Int64.le_iff_toInt_le, ← Int64.toInt_inj, Int32.toInt_toInt64, Int32.reduceToInt, Int64.reduceToInt] at t_3_0
    refine lv_iconst (v := 0) hx hb dX0_share_15 (by decide) ?_
    refine kIret (u := (zA, sM, zM)) hx hb hr rfl hlocks hS dX0_share_16 ?_ (hP.sub [0] rfl) (hD.sub [0] (by decide) rfl)
    first
      | exact Or.inl rfl
      | exact Or.inr rfl
      | assumption
  · have t_3_0 := c_3_0
    try simp only [kb_eq0, kb_ne0, lg_cmp_lt, lg_cmp_le, lg_cmp_gt, lg_cmp_ge, lg_cmp_eq] at t_3_0
    try simp only [Int32.lt_iff_toInt_lt, Int32.le_iff_toInt_le, ← Int32.toInt_inj, Int64.lt_iff_toInt_lt, Int64.le_iff_toInt_le, ← Int64.toInt_inj, Int32.toInt_toInt64, Int32.reduceToInt, Int64.reduceToInt] at t_3_0
    refine lv_lload_n hx hb dX0_share_6 rfl (lv_at hl 2 rfl) ?_
    refine lv_aload_n hx hb dX0_share_7 rfl (lv_at hl 0 rfl) ?_
    refine va_get (D := D) (ci := 0) (v := .long zA) (C := RX0) (T := TX0) (N := 5) hx hb hts iX0_share_X0 hown hK hP 0 rfl rfl 1 (by decide) (hts (.fieldLink RX0 15 "TapeCalculator$Arithmetic" "accSize" "J") (List.mem_of_getElem? (i := 1) rfl)) (fun _ h9 => h9) rfl dX0_share_8 ?_
    refine W.lcmp hx hb dX0_share_11 ?_
    refine lv_if_gt (tgt := 17) hx hb dX0_share_12 (by decide) (fun c_12_1 => ?_) (fun c_12_1 => ?_)
    · have t_12_1 := c_12_1
      try simp only [kb_eq0, kb_ne0, lg_cmp_lt, lg_cmp_le, lg_cmp_gt, lg_cmp_ge, lg_cmp_eq] at t_12_1
      try simp only [Int32.lt_iff_toInt_lt, Int32.le_iff_toInt_le, ← Int32.toInt_inj, Int64.lt_iff_toInt_lt, Int64.le_iff_toInt_le, ← Int64.toInt_inj, Int32.toInt_toInt64, Int32.reduceToInt, Int64.reduceToInt] at t_12_1
      refine lv_aload_n hx hb dX0_share_17 rfl (lv_at hl 0 rfl) ?_
      refine va_get (D := D) (ci := 0) (v := .long zA) (C := RX0) (T := TX0) (N := 5) hx hb hts iX0_share_X0 hown hK hP 0 rfl rfl 1 (by decide) (hts (.fieldLink RX0 15 "TapeCalculator$Arithmetic" "accSize" "J") (List.mem_of_getElem? (i := 1) rfl)) (fun _ h9 => h9) rfl dX0_share_18 ?_
      refine lv_bipush (v := 17) hx hb dX0_share_21 (by decide) ?_
      refine lv_lshl hx hb dX0_share_23 rfl ?_
      refine lv_aload_n hx hb dX0_share_24 rfl (lv_at hl 0 rfl) ?_
      refine va_get (D := D) (ci := 0) (v := .long zM) (C := RX0) (T := TX0) (N := 5) hx hb hts iX0_share_X0 hown hK hP 0 rfl rfl 3 (by decide) (hts (.fieldLink RX0 26 "TapeCalculator$Arithmetic" "mqSize" "J") (List.mem_of_getElem? (i := 2) rfl)) (fun _ h9 => h9) rfl dX0_share_25 ?_
      refine lv_bipush (v := 18) hx hb dX0_share_28 (by decide) ?_
      refine lv_lshr hx hb dX0_share_30 rfl ?_
      refine lv_lor hx hb dX0_share_31 ?_
      refine lv_topl (fun x_3 ex_3 => ?_)
      refine lv_lstore (lv' := [(4, .long x_3), (0, .ref aA), (1, .int g), (2, .long v)]) hx hb dX0_share_32 hl (by decide) rfl (fun ls hl => ?_)
      refine lv_lload hx hb dX0_share_34 (lv_at hl 0 rfl) ?_
      refine lv_lload_n hx hb dX0_share_36 rfl (lv_at hl 3 rfl) ?_
      refine lv_lrem hx hb dX0_share_37 (k_nz (by omega)) ?_
      refine lv_bipush (v := 18) hx hb dX0_share_38 (by decide) ?_
      refine lv_lshl hx hb dX0_share_40 rfl ?_
      refine lv_aload_n hx hb dX0_share_41 rfl (lv_at hl 1 rfl) ?_
      refine va_get (D := D) (ci := 0) (v := .long zM) (C := RX0) (T := TX0) (N := 5) hx hb hts iX0_share_X0 hown hK hP 0 rfl rfl 3 (by decide) (hts (.fieldLink RX0 26 "TapeCalculator$Arithmetic" "mqSize" "J") (List.mem_of_getElem? (i := 2) rfl)) (fun _ h9 => h9) rfl dX0_share_42 ?_
      refine lv_ldc2 (v := 262143) hx hb hown (hts (.constantLong RX0 58 (262143)) (List.mem_of_getElem? (i := 3) rfl)) dX0_share_45 ?_
      refine lv_land hx hb dX0_share_48 ?_
      refine lv_lor hx hb dX0_share_49 ?_
      refine lv_topl (fun x_4 ex_4 => ?_)
      refine lv_lstore (lv' := [(6, .long x_4), (4, .long x_3), (0, .ref aA), (1, .int g), (2, .long v)]) hx hb dX0_share_50 hl (by decide) rfl (fun ls hl => ?_)
      refine lv_aload_n hx hb dX0_share_52 rfl (lv_at hl 2 rfl) ?_
      refine lv_lload hx hb dX0_share_53 (lv_at hl 1 rfl) ?_
      refine lv_lload_n hx hb dX0_share_55 rfl (lv_at hl 4 rfl) ?_
      refine lv_ldiv hx hb dX0_share_56 (k_nz (by omega)) ?_
      refine lv_bipush (v := 18) hx hb dX0_share_57 (by decide) ?_
      refine lv_lshl hx hb dX0_share_59 rfl ?_
      refine lv_lload hx hb dX0_share_60 (lv_at hl 0 rfl) ?_
      refine lv_lload_n hx hb dX0_share_62 rfl (lv_at hl 4 rfl) ?_
      refine lv_ldiv hx hb dX0_share_63 (k_nz (by omega)) ?_
      refine lv_lor hx hb dX0_share_64 ?_
      refine lv_topl (fun x_5 ex_5 => ?_)
      refine va_put (D := D) (ci := 0) (v := .long x_5) (ty := .long) (C := RX0) (T := TX0) (N := 5) hx hb hts iX0_share_X0 tyX0 tyX0_ok nmX0 hown hK hP hD hS 0 rfl rfl 3 (by decide) (hts (.fieldLink RX0 26 "TapeCalculator$Arithmetic" "mqSize" "J") (List.mem_of_getElem? (i := 2) rfl)) (fun _ h9 => h9) rfl (by decide +kernel) rfl rfl (Nat.le_of_ble_eq_true rfl) dX0_share_65 (fun H locs hP hD hS => ?_)
      have hP : va_P D vwCl [(aA, .inr (0, [.int sA, .long zA, .int sM, .long x_5, .int vO]))] H := hP
      have hD : va_D A [(aA, .inr (0, [.int sA, .long zA, .int sM, .long x_5, .int vO]))] := hD
      refine lv_aload_n hx hb dX0_share_68 rfl (lv_at hl 2 rfl) ?_
      refine lv_lload hx hb dX0_share_69 (lv_at hl 0 rfl) ?_
      refine lv_lload_n hx hb dX0_share_71 rfl (lv_at hl 4 rfl) ?_
      refine lv_lrem hx hb dX0_share_72 (k_nz (by omega)) ?_
      refine lv_topl (fun x_6 ex_6 => ?_)
      refine va_put (D := D) (ci := 0) (v := .long x_6) (ty := .long) (C := RX0) (T := TX0) (N := 5) hx hb hts iX0_share_X0 tyX0 tyX0_ok nmX0 hown hK hP hD hS 0 rfl rfl 1 (by decide) (hts (.fieldLink RX0 15 "TapeCalculator$Arithmetic" "accSize" "J") (List.mem_of_getElem? (i := 1) rfl)) (fun _ h9 => h9) rfl (by decide +kernel) rfl rfl (Nat.le_of_ble_eq_true rfl) dX0_share_73 (fun H locs hP hD hS => ?_)
      have hP : va_P D vwCl [(aA, .inr (0, [.int sA, .long x_6, .int sM, .long x_5, .int vO]))] H := hP
      have hD : va_D A [(aA, .inr (0, [.int sA, .long x_6, .int sM, .long x_5, .int vO]))] := hD
      refine lv_aload_n hx hb dX0_share_76 rfl (lv_at hl 2 rfl) ?_
      refine lv_aload_n hx hb dX0_share_77 rfl (lv_at hl 2 rfl) ?_
      refine va_get (D := D) (ci := 0) (v := .int sA) (C := RX0) (T := TX0) (N := 5) hx hb hts iX0_share_X0 hown hK hP 0 rfl rfl 0 (by decide) (hts (.fieldLink RX0 9 "TapeCalculator$Arithmetic" "accSign" "I") (List.mem_of_getElem? (i := 4) rfl)) (fun _ h9 => h9) rfl dX0_share_78 ?_
      refine lv_iload_n hx hb dX0_share_81 rfl (lv_at hl 3 rfl) ?_
      refine lv_ixor hx hb dX0_share_82 ?_
      refine lv_topi (fun x_7 ex_7 => ?_)
      refine va_put (D := D) (ci := 0) (v := .int x_7) (ty := .int) (C := RX0) (T := TX0) (N := 5) hx hb hts iX0_share_X0 tyX0 tyX0_ok nmX0 hown hK hP hD hS 0 rfl rfl 2 (by decide) (hts (.fieldLink RX0 23 "TapeCalculator$Arithmetic" "mqSign" "I") (List.mem_of_getElem? (i := 5) rfl)) (fun _ h9 => h9) rfl (by decide +kernel) rfl rfl (Nat.le_of_ble_eq_true rfl) dX0_share_83 (fun H locs hP hD hS => ?_)
      have hP : va_P D vwCl [(aA, .inr (0, [.int sA, .long x_6, .int x_7, .long x_5, .int vO]))] H := hP
      have hD : va_D A [(aA, .inr (0, [.int sA, .long x_6, .int x_7, .long x_5, .int vO]))] := hD
      refine lv_iconst (v := 1) hx hb dX0_share_86 (by decide) ?_
      refine kIret (u := (x_6, x_7, x_5)) hx hb hr rfl hlocks hS dX0_share_87 ?_ (hP.sub [0] rfl) (hD.sub [0] (by decide) rfl)
      first
        | exact Or.inl rfl
        | exact Or.inr rfl
        | assumption
    · have t_12_1 := c_12_1
      try simp only [kb_eq0, kb_ne0, lg_cmp_lt, lg_cmp_le, lg_cmp_gt, lg_cmp_ge, lg_cmp_eq] at t_12_1
      try simp only [Int32.lt_iff_toInt_lt, Int32.le_iff_toInt_le, ← Int32.toInt_inj, Int64.lt_iff_toInt_lt, Int64.le_iff_toInt_le, ← Int64.toInt_inj, Int32.toInt_toInt64, Int32.reduceToInt, Int64.reduceToInt] at t_12_1
      refine lv_iconst (v := 0) hx hb dX0_share_15 (by decide) ?_
      refine kIret (u := (zA, sM, zM)) hx hb hr rfl hlocks hS dX0_share_16 ?_ (hP.sub [0] rfl) (hD.sub [0] (by decide) rfl)
      first
        | exact Or.inl rfl
        | exact Or.inr rfl
        | assumption
set_option maxRecDepth 100000 in
set_option maxHeartbeats 4000000 in
theorem g_hasOne (l : Launch) (D : va_G) (cI cL cB cZ cT : ClassId) (sz : Nat) (v : Int64) (n : Int32) : kM (S := Unit) l yX0_hasOneAhead wsX0_hasOneAhead ({ frames := 0, cells := 0, slots := 0, locals := 0 }) D (kT cI cL cB cZ cT) [.long v, .int n] [] sz eI (fun r _ => r = 0 ∨ r = 1) (fun _ => []) 0 0 := by
  refine kStart (cc := cX0_hasOneAhead) (maxL := 4) (ret := (some .boolean)) (own := RX0) (by decide) rfl rfl (Nat.le_of_ble_eq_true rfl) ?_
  intro p e s m args below meth c A ls hx hb hr hml hown hts hlocks hnm hsz hA hG hP hD hS hl
  have hK := hG.1
  have hl : lv_has ls 4 [(0, .long v), (2, .int n)] := hl
  refine lv_iload_n hx hb dX0_hasOneAhead_0 rfl (lv_at hl 1 rfl) ?_
  refine lv_if_gt (tgt := 6) hx hb dX0_hasOneAhead_1 (by decide) (fun c_1_0 => ?_) (fun c_1_0 => ?_)
  · have t_1_0 := c_1_0
    try simp only [kb_eq0, kb_ne0, lg_cmp_lt, lg_cmp_le, lg_cmp_gt, lg_cmp_ge, lg_cmp_eq] at t_1_0
    try simp only [Int32.lt_iff_toInt_lt, Int32.le_iff_toInt_le, ← Int32.toInt_inj, Int64.lt_iff_toInt_lt, Int64.le_iff_toInt_le, ← Int64.toInt_inj, Int32.toInt_toInt64, Int32.reduceToInt, Int64.reduceToInt] at t_1_0
    refine lv_iload_n hx hb dX0_hasOneAhead_6 rfl (lv_at hl 1 rfl) ?_
    refine lv_bipush (v := 35) hx hb dX0_hasOneAhead_7 (by decide) ?_
    refine lv_icmp_ge (tgt := 19) hx hb dX0_hasOneAhead_9 (by decide) (fun c_9_1 => ?_) (fun c_9_1 => ?_)
    · have t_9_1 := c_9_1
      try simp only [kb_eq0, kb_ne0, lg_cmp_lt, lg_cmp_le, lg_cmp_gt, lg_cmp_ge, lg_cmp_eq] at t_9_1
      try simp only [Int32.lt_iff_toInt_lt, Int32.le_iff_toInt_le, ← Int32.toInt_inj, Int64.lt_iff_toInt_lt, Int64.le_iff_toInt_le, ← Int64.toInt_inj, Int32.toInt_toInt64, Int32.reduceToInt, Int64.reduceToInt] at t_9_1
      refine lv_iconst (v := 0) hx hb dX0_hasOneAhead_19 (by decide) ?_
      refine lv_istore_n (lv' := [(3, .int 0), (0, .long v), (2, .int n)]) hx hb dX0_hasOneAhead_20 rfl hl (by decide) rfl (fun ls hl => ?_)
      refine lv_lload_n hx hb dX0_hasOneAhead_21 rfl (lv_at hl 1 rfl) ?_
      refine lv_ldc2 (v := 34359738367) hx hb hown (hts (.constantLong RX0 29 (34359738367)) (List.mem_of_getElem? (i := 1) rfl)) dX0_hasOneAhead_22 ?_
      refine lv_land hx hb dX0_hasOneAhead_25 ?_
      refine lv_iload_n hx hb dX0_hasOneAhead_26 rfl (lv_at hl 0 rfl) ?_
      refine lv_lshr hx hb dX0_hasOneAhead_27 rfl ?_
      refine lv_lconst (v := 0) hx hb dX0_hasOneAhead_28 (by decide) ?_
      refine W.lcmp hx hb dX0_hasOneAhead_29 ?_
      refine lv_if_eq (tgt := 37) hx hb dX0_hasOneAhead_30 (by decide) (fun c_30_2 => ?_) (fun c_30_2 => ?_)
      · have t_30_2 := c_30_2
        try simp only [kb_eq0, kb_ne0, lg_cmp_lt, lg_cmp_le, lg_cmp_gt, lg_cmp_ge, lg_cmp_eq] at t_30_2
        try simp only [Int32.lt_iff_toInt_lt, Int32.le_iff_toInt_le, ← Int32.toInt_inj, Int64.lt_iff_toInt_lt, Int64.le_iff_toInt_le, ← Int64.toInt_inj, Int32.toInt_toInt64, Int32.reduceToInt, Int64.reduceToInt] at t_30_2
        refine lv_iconst (v := 0) hx hb dX0_hasOneAhead_37 (by decide) ?_
        refine kIret (u := ()) hx hb hr rfl hlocks hS dX0_hasOneAhead_38 ?_ (hP.sub [] rfl) (hD.sub [] (by decide) rfl)
        first
          | exact Or.inl rfl
          | exact Or.inr rfl
          | assumption
      · have t_30_2 := c_30_2
        try simp only [kb_eq0, kb_ne0, lg_cmp_lt, lg_cmp_le, lg_cmp_gt, lg_cmp_ge, lg_cmp_eq] at t_30_2
        try simp only [Int32.lt_iff_toInt_lt, Int32.le_iff_toInt_le, ← Int32.toInt_inj, Int64.lt_iff_toInt_lt, Int64.le_iff_toInt_le, ← Int64.toInt_inj, Int32.toInt_toInt64, Int32.reduceToInt, Int64.reduceToInt] at t_30_2
        refine lv_iconst (v := 1) hx hb dX0_hasOneAhead_33 (by decide) ?_
        refine lv_goto (tgt := 38) hx hb dX0_hasOneAhead_34 (by decide) ?_
        refine kIret (u := ()) hx hb hr rfl hlocks hS dX0_hasOneAhead_38 ?_ (hP.sub [] rfl) (hD.sub [] (by decide) rfl)
        first
          | exact Or.inl rfl
          | exact Or.inr rfl
          | assumption
    · have t_9_1 := c_9_1
      try simp only [kb_eq0, kb_ne0, lg_cmp_lt, lg_cmp_le, lg_cmp_gt, lg_cmp_ge, lg_cmp_eq] at t_9_1
      try simp only [Int32.lt_iff_toInt_lt, Int32.le_iff_toInt_le, ← Int32.toInt_inj, Int64.lt_iff_toInt_lt, Int64.le_iff_toInt_le, ← Int64.toInt_inj, Int32.toInt_toInt64, Int32.reduceToInt, Int64.reduceToInt] at t_9_1
      refine lv_bipush (v := 35) hx hb dX0_hasOneAhead_12 (by decide) ?_
      refine lv_iload_n hx hb dX0_hasOneAhead_14 rfl (lv_at hl 1 rfl) ?_
      refine lv_isub hx hb dX0_hasOneAhead_15 ?_
      refine lv_goto (tgt := 20) hx hb dX0_hasOneAhead_16 (by decide) ?_
      refine lv_topi (fun x_4 ex_4 => ?_)
      refine lv_istore_n (lv' := [(3, .int x_4), (0, .long v), (2, .int n)]) hx hb dX0_hasOneAhead_20 rfl hl (by decide) rfl (fun ls hl => ?_)
      refine lv_lload_n hx hb dX0_hasOneAhead_21 rfl (lv_at hl 1 rfl) ?_
      refine lv_ldc2 (v := 34359738367) hx hb hown (hts (.constantLong RX0 29 (34359738367)) (List.mem_of_getElem? (i := 1) rfl)) dX0_hasOneAhead_22 ?_
      refine lv_land hx hb dX0_hasOneAhead_25 ?_
      refine lv_iload_n hx hb dX0_hasOneAhead_26 rfl (lv_at hl 0 rfl) ?_
      refine lv_lshr hx hb dX0_hasOneAhead_27 rfl ?_
      refine lv_lconst (v := 0) hx hb dX0_hasOneAhead_28 (by decide) ?_
      refine W.lcmp hx hb dX0_hasOneAhead_29 ?_
      refine lv_if_eq (tgt := 37) hx hb dX0_hasOneAhead_30 (by decide) (fun c_30_4 => ?_) (fun c_30_4 => ?_)
      · have t_30_4 := c_30_4
        try simp only [kb_eq0, kb_ne0, lg_cmp_lt, lg_cmp_le, lg_cmp_gt, lg_cmp_ge, lg_cmp_eq] at t_30_4
        try simp only [Int32.lt_iff_toInt_lt, Int32.le_iff_toInt_le, ← Int32.toInt_inj, Int64.lt_iff_toInt_lt, Int64.le_iff_toInt_le, ← Int64.toInt_inj, Int32.toInt_toInt64, Int32.reduceToInt, Int64.reduceToInt] at t_30_4
        refine lv_iconst (v := 0) hx hb dX0_hasOneAhead_37 (by decide) ?_
        try subst ex_4
        refine kIret (u := ()) hx hb hr rfl hlocks hS dX0_hasOneAhead_38 ?_ (hP.sub [] rfl) (hD.sub [] (by decide) rfl)
        first
          | exact Or.inl rfl
          | exact Or.inr rfl
          | assumption
      · have t_30_4 := c_30_4
        try simp only [kb_eq0, kb_ne0, lg_cmp_lt, lg_cmp_le, lg_cmp_gt, lg_cmp_ge, lg_cmp_eq] at t_30_4
        try simp only [Int32.lt_iff_toInt_lt, Int32.le_iff_toInt_le, ← Int32.toInt_inj, Int64.lt_iff_toInt_lt, Int64.le_iff_toInt_le, ← Int64.toInt_inj, Int32.toInt_toInt64, Int32.reduceToInt, Int64.reduceToInt] at t_30_4
        refine lv_iconst (v := 1) hx hb dX0_hasOneAhead_33 (by decide) ?_
        refine lv_goto (tgt := 38) hx hb dX0_hasOneAhead_34 (by decide) ?_
        try subst ex_4
        refine kIret (u := ()) hx hb hr rfl hlocks hS dX0_hasOneAhead_38 ?_ (hP.sub [] rfl) (hD.sub [] (by decide) rfl)
        first
          | exact Or.inl rfl
          | exact Or.inr rfl
          | assumption
  · have t_1_0 := c_1_0
    try simp only [kb_eq0, kb_ne0, lg_cmp_lt, lg_cmp_le, lg_cmp_gt, lg_cmp_ge, lg_cmp_eq] at t_1_0
    try simp only [Int32.lt_iff_toInt_lt, Int32.le_iff_toInt_le, ← Int32.toInt_inj, Int64.lt_iff_toInt_lt, Int64.le_iff_toInt_le, ← Int64.toInt_inj, Int32.toInt_toInt64, Int32.reduceToInt, Int64.reduceToInt] at t_1_0
    refine lv_iconst (v := 0) hx hb dX0_hasOneAhead_4 (by decide) ?_
    refine kIret (u := ()) hx hb hr rfl hlocks hS dX0_hasOneAhead_5 ?_ (hP.sub [] rfl) (hD.sub [] (by decide) rfl)
    first
      | exact Or.inl rfl
      | exact Or.inr rfl
      | assumption
set_option maxRecDepth 100000 in
theorem iX0_left_X0 : ∀ w ∈ wsX00, w ∈ wsX0_left := fun w h => (goodIn_r (big := wsX0_left) wsX00 [9, 10, 11, 12, 13] rfl (by decide +kernel) w h).1
set_option maxRecDepth 100000 in
set_option maxHeartbeats 4000000 in
theorem g_left (l : Launch) (D : va_G) (cI cL cB cZ cT : ClassId) (sz : Nat) (aA : Nat) (sA : Int32) (zA : Int64) (sM : Int32) (zM : Int64) (vO : Int32) (n : Int32) : kM (S := (Int64 × Int32)) l yX0_left wsX0_left ({ frames := 1, cells := 0, slots := 0, locals := 23 }) D (kT cI cL cB cZ cT) [.ref aA, .int n] [(aA, .inr (0, [.int sA, .long zA, .int sM, .long zM, .int vO]))] sz eV (fun _ _ => True) (fun u => [(aA, .inr (0, [.int sA, .long u.1, .int sM, .long zM, .int u.2]))]) 0 0 := by
  refine kStart (cc := cX0_left) (maxL := 2) (ret := none) (own := RX0) (by decide) rfl rfl (Nat.le_of_ble_eq_true rfl) ?_
  intro p e s m args below meth c A ls hx hb hr hml hown hts hlocks hnm hsz hA hG hP hD hS hl
  have hK := hG.1
  have hl : lv_has ls 2 [(0, .ref aA), (1, .int n)] := hl
  refine lv_aload_n hx hb dX0_left_0 rfl (lv_at hl 0 rfl) ?_
  refine lv_aload_n hx hb dX0_left_1 rfl (lv_at hl 0 rfl) ?_
  refine va_get (D := D) (ci := 0) (v := .int vO) (C := RX0) (T := TX0) (N := 5) hx hb hts iX0_left_X0 hown hK hP 0 rfl rfl 4 (by decide) (hts (.fieldLink RX0 52 "TapeCalculator$Arithmetic" "over" "Z") (List.mem_of_getElem? (i := 1) rfl)) (fun _ h9 => h9) rfl dX0_left_2 ?_
  refine lv_if_ne (tgt := 19) hx hb dX0_left_5 (by decide) (fun c_5_0 => ?_) (fun c_5_0 => ?_)
  · have t_5_0 := c_5_0
    try simp only [kb_eq0, kb_ne0, lg_cmp_lt, lg_cmp_le, lg_cmp_gt, lg_cmp_ge, lg_cmp_eq] at t_5_0
    try simp only [Int32.lt_iff_toInt_lt, Int32.le_iff_toInt_le, ← Int32.toInt_inj, Int64.lt_iff_toInt_lt, Int64.le_iff_toInt_le, ← Int64.toInt_inj, Int32.toInt_toInt64, Int32.reduceToInt, Int64.reduceToInt] at t_5_0
    refine lv_iconst (v := 1) hx hb dX0_left_19 (by decide) ?_
    refine lv_goto (tgt := 24) hx hb dX0_left_20 (by decide) ?_
    refine va_put (D := D) (ci := 0) (v := .int 1) (ty := .boolean) (C := RX0) (T := TX0) (N := 5) hx hb hts iX0_left_X0 tyX0 tyX0_ok nmX0 hown hK hP hD hS 0 rfl rfl 4 (by decide) (hts (.fieldLink RX0 52 "TapeCalculator$Arithmetic" "over" "Z") (List.mem_of_getElem? (i := 1) rfl)) (fun _ h9 => h9) rfl (by decide +kernel) rfl rfl (Nat.le_of_ble_eq_true rfl) dX0_left_24 (fun H locs hP hD hS => ?_)
    have hP : va_P D vwCl [(aA, .inr (0, [.int sA, .long zA, .int sM, .long zM, .int 1]))] H := hP
    have hD : va_D A [(aA, .inr (0, [.int sA, .long zA, .int sM, .long zM, .int 1]))] := hD
    refine lv_aload_n hx hb dX0_left_27 rfl (lv_at hl 0 rfl) ?_
    refine lv_aload_n hx hb dX0_left_28 rfl (lv_at hl 0 rfl) ?_
    refine va_get (D := D) (ci := 0) (v := .long zA) (C := RX0) (T := TX0) (N := 5) hx hb hts iX0_left_X0 hown hK hP 0 rfl rfl 1 (by decide) (hts (.fieldLink RX0 15 "TapeCalculator$Arithmetic" "accSize" "J") (List.mem_of_getElem? (i := 2) rfl)) (fun _ h9 => h9) rfl dX0_left_29 ?_
    refine lv_iload_n hx hb dX0_left_32 rfl (lv_at hl 1 rfl) ?_
    refine lv_lshl hx hb dX0_left_33 rfl ?_
    refine lv_ldc2 (v := 137438953471) hx hb hown (hts (.constantLong RX0 56 (137438953471)) (List.mem_of_getElem? (i := 3) rfl)) dX0_left_34 ?_
    refine lv_land hx hb dX0_left_37 ?_
    refine lv_topl (fun x_2 ex_2 => ?_)
    refine va_put (D := D) (ci := 0) (v := .long x_2) (ty := .long) (C := RX0) (T := TX0) (N := 5) hx hb hts iX0_left_X0 tyX0 tyX0_ok nmX0 hown hK hP hD hS 0 rfl rfl 1 (by decide) (hts (.fieldLink RX0 15 "TapeCalculator$Arithmetic" "accSize" "J") (List.mem_of_getElem? (i := 2) rfl)) (fun _ h9 => h9) rfl (by decide +kernel) rfl rfl (Nat.le_of_ble_eq_true rfl) dX0_left_38 (fun H locs hP hD hS => ?_)
    have hP : va_P D vwCl [(aA, .inr (0, [.int sA, .long x_2, .int sM, .long zM, .int 1]))] H := hP
    have hD : va_D A [(aA, .inr (0, [.int sA, .long x_2, .int sM, .long zM, .int 1]))] := hD
    refine kVret (u := (x_2, 1)) hx hb hr hlocks hS dX0_left_41 ?_ (hP.sub [0] rfl) (hD.sub [0] (by decide) rfl)
    exact trivial
  · have t_5_0 := c_5_0
    try simp only [kb_eq0, kb_ne0, lg_cmp_lt, lg_cmp_le, lg_cmp_gt, lg_cmp_ge, lg_cmp_eq] at t_5_0
    try simp only [Int32.lt_iff_toInt_lt, Int32.le_iff_toInt_le, ← Int32.toInt_inj, Int64.lt_iff_toInt_lt, Int64.le_iff_toInt_le, ← Int64.toInt_inj, Int32.toInt_toInt64, Int32.reduceToInt, Int64.reduceToInt] at t_5_0
    refine lv_aload_n hx hb dX0_left_8 rfl (lv_at hl 0 rfl) ?_
    refine va_get (D := D) (ci := 0) (v := .long zA) (C := RX0) (T := TX0) (N := 5) hx hb hts iX0_left_X0 hown hK hP 0 rfl rfl 1 (by decide) (hts (.fieldLink RX0 15 "TapeCalculator$Arithmetic" "accSize" "J") (List.mem_of_getElem? (i := 2) rfl)) (fun _ h9 => h9) rfl dX0_left_9 ?_
    refine lv_iload_n hx hb dX0_left_12 rfl (lv_at hl 1 rfl) ?_
    refine kCallI (wr := [(aA, .inr (0, [.int sA, .long zA, .int sM, .long zM, .int vO]))]) (va_runS (As := [.long zA, .int n]) (rest := [.ref aA]) ⟨hx, hb, hml, hown, hts⟩ (g_hasOne l D cI cL cB cZ cT _ zA n) (va_cwS 2 hts gX0_left_X0_hasOneAhead rfl rfl rfl (by decide +kernel) ⟨Nat.le_of_ble_eq_true rfl, Nat.le_of_ble_eq_true rfl⟩) (kPreS hG hP hD [] rfl (by decide)) rfl rfl hl.1 rfl (lv_room (Nat.le_of_ble_eq_true rfl)) dX0_left_13 ⟨Nat.le_of_ble_eq_true rfl, Nat.le_of_ble_eq_true rfl⟩) hA hP hD hS [] [0] rfl rfl (by decide) (by decide) (fun r_3 u_r_3 H locs wr_3 hP hD hS => ?_)
    have hP : va_P D vwCl [(aA, .inr (0, [.int sA, .long zA, .int sM, .long zM, .int vO]))] H := hP
    have hD : va_D A [(aA, .inr (0, [.int sA, .long zA, .int sM, .long zM, .int vO]))] := hD
    try dsimp only at wr_3
    refine lv_if_eq (tgt := 23) hx hb dX0_left_16 (by decide) (fun c_16_3 => ?_) (fun c_16_3 => ?_)
    · have t_16_3 := c_16_3
      try simp only [kb_eq0, kb_ne0, lg_cmp_lt, lg_cmp_le, lg_cmp_gt, lg_cmp_ge, lg_cmp_eq] at t_16_3
      try simp only [Int32.lt_iff_toInt_lt, Int32.le_iff_toInt_le, ← Int32.toInt_inj, Int64.lt_iff_toInt_lt, Int64.le_iff_toInt_le, ← Int64.toInt_inj, Int32.toInt_toInt64, Int32.reduceToInt, Int64.reduceToInt] at t_16_3
      refine lv_iconst (v := 0) hx hb dX0_left_23 (by decide) ?_
      refine va_put (D := D) (ci := 0) (v := .int 0) (ty := .boolean) (C := RX0) (T := TX0) (N := 5) hx hb hts iX0_left_X0 tyX0 tyX0_ok nmX0 hown hK hP hD hS 0 rfl rfl 4 (by decide) (hts (.fieldLink RX0 52 "TapeCalculator$Arithmetic" "over" "Z") (List.mem_of_getElem? (i := 1) rfl)) (fun _ h9 => h9) rfl (by decide +kernel) rfl rfl (Nat.le_of_ble_eq_true rfl) dX0_left_24 (fun H locs hP hD hS => ?_)
      have hP : va_P D vwCl [(aA, .inr (0, [.int sA, .long zA, .int sM, .long zM, .int 0]))] H := hP
      have hD : va_D A [(aA, .inr (0, [.int sA, .long zA, .int sM, .long zM, .int 0]))] := hD
      refine lv_aload_n hx hb dX0_left_27 rfl (lv_at hl 0 rfl) ?_
      refine lv_aload_n hx hb dX0_left_28 rfl (lv_at hl 0 rfl) ?_
      refine va_get (D := D) (ci := 0) (v := .long zA) (C := RX0) (T := TX0) (N := 5) hx hb hts iX0_left_X0 hown hK hP 0 rfl rfl 1 (by decide) (hts (.fieldLink RX0 15 "TapeCalculator$Arithmetic" "accSize" "J") (List.mem_of_getElem? (i := 2) rfl)) (fun _ h9 => h9) rfl dX0_left_29 ?_
      refine lv_iload_n hx hb dX0_left_32 rfl (lv_at hl 1 rfl) ?_
      refine lv_lshl hx hb dX0_left_33 rfl ?_
      refine lv_ldc2 (v := 137438953471) hx hb hown (hts (.constantLong RX0 56 (137438953471)) (List.mem_of_getElem? (i := 3) rfl)) dX0_left_34 ?_
      refine lv_land hx hb dX0_left_37 ?_
      refine lv_topl (fun x_5 ex_5 => ?_)
      refine va_put (D := D) (ci := 0) (v := .long x_5) (ty := .long) (C := RX0) (T := TX0) (N := 5) hx hb hts iX0_left_X0 tyX0 tyX0_ok nmX0 hown hK hP hD hS 0 rfl rfl 1 (by decide) (hts (.fieldLink RX0 15 "TapeCalculator$Arithmetic" "accSize" "J") (List.mem_of_getElem? (i := 2) rfl)) (fun _ h9 => h9) rfl (by decide +kernel) rfl rfl (Nat.le_of_ble_eq_true rfl) dX0_left_38 (fun H locs hP hD hS => ?_)
      have hP : va_P D vwCl [(aA, .inr (0, [.int sA, .long x_5, .int sM, .long zM, .int 0]))] H := hP
      have hD : va_D A [(aA, .inr (0, [.int sA, .long x_5, .int sM, .long zM, .int 0]))] := hD
      refine kVret (u := (x_5, 0)) hx hb hr hlocks hS dX0_left_41 ?_ (hP.sub [0] rfl) (hD.sub [0] (by decide) rfl)
      exact trivial
    · have t_16_3 := c_16_3
      try simp only [kb_eq0, kb_ne0, lg_cmp_lt, lg_cmp_le, lg_cmp_gt, lg_cmp_ge, lg_cmp_eq] at t_16_3
      try simp only [Int32.lt_iff_toInt_lt, Int32.le_iff_toInt_le, ← Int32.toInt_inj, Int64.lt_iff_toInt_lt, Int64.le_iff_toInt_le, ← Int64.toInt_inj, Int32.toInt_toInt64, Int32.reduceToInt, Int64.reduceToInt] at t_16_3
      refine lv_iconst (v := 1) hx hb dX0_left_19 (by decide) ?_
      refine lv_goto (tgt := 24) hx hb dX0_left_20 (by decide) ?_
      refine va_put (D := D) (ci := 0) (v := .int 1) (ty := .boolean) (C := RX0) (T := TX0) (N := 5) hx hb hts iX0_left_X0 tyX0 tyX0_ok nmX0 hown hK hP hD hS 0 rfl rfl 4 (by decide) (hts (.fieldLink RX0 52 "TapeCalculator$Arithmetic" "over" "Z") (List.mem_of_getElem? (i := 1) rfl)) (fun _ h9 => h9) rfl (by decide +kernel) rfl rfl (Nat.le_of_ble_eq_true rfl) dX0_left_24 (fun H locs hP hD hS => ?_)
      have hP : va_P D vwCl [(aA, .inr (0, [.int sA, .long zA, .int sM, .long zM, .int 1]))] H := hP
      have hD : va_D A [(aA, .inr (0, [.int sA, .long zA, .int sM, .long zM, .int 1]))] := hD
      refine lv_aload_n hx hb dX0_left_27 rfl (lv_at hl 0 rfl) ?_
      refine lv_aload_n hx hb dX0_left_28 rfl (lv_at hl 0 rfl) ?_
      refine va_get (D := D) (ci := 0) (v := .long zA) (C := RX0) (T := TX0) (N := 5) hx hb hts iX0_left_X0 hown hK hP 0 rfl rfl 1 (by decide) (hts (.fieldLink RX0 15 "TapeCalculator$Arithmetic" "accSize" "J") (List.mem_of_getElem? (i := 2) rfl)) (fun _ h9 => h9) rfl dX0_left_29 ?_
      refine lv_iload_n hx hb dX0_left_32 rfl (lv_at hl 1 rfl) ?_
      refine lv_lshl hx hb dX0_left_33 rfl ?_
      refine lv_ldc2 (v := 137438953471) hx hb hown (hts (.constantLong RX0 56 (137438953471)) (List.mem_of_getElem? (i := 3) rfl)) dX0_left_34 ?_
      refine lv_land hx hb dX0_left_37 ?_
      refine lv_topl (fun x_6 ex_6 => ?_)
      refine va_put (D := D) (ci := 0) (v := .long x_6) (ty := .long) (C := RX0) (T := TX0) (N := 5) hx hb hts iX0_left_X0 tyX0 tyX0_ok nmX0 hown hK hP hD hS 0 rfl rfl 1 (by decide) (hts (.fieldLink RX0 15 "TapeCalculator$Arithmetic" "accSize" "J") (List.mem_of_getElem? (i := 2) rfl)) (fun _ h9 => h9) rfl (by decide +kernel) rfl rfl (Nat.le_of_ble_eq_true rfl) dX0_left_38 (fun H locs hP hD hS => ?_)
      have hP : va_P D vwCl [(aA, .inr (0, [.int sA, .long x_6, .int sM, .long zM, .int 1]))] H := hP
      have hD : va_D A [(aA, .inr (0, [.int sA, .long x_6, .int sM, .long zM, .int 1]))] := hD
      refine kVret (u := (x_6, 1)) hx hb hr hlocks hS dX0_left_41 ?_ (hP.sub [0] rfl) (hD.sub [0] (by decide) rfl)
      exact trivial
set_option maxRecDepth 100000 in
theorem iX0_right_X0 : ∀ w ∈ wsX00, w ∈ wsX0_right := fun w h => (goodIn_r (big := wsX0_right) wsX00 [2, 3, 4, 5, 6] rfl (by decide +kernel) w h).1
set_option maxRecDepth 100000 in
set_option maxHeartbeats 4000000 in
theorem g_right (l : Launch) (D : va_G) (cI cL cB cZ cT : ClassId) (sz : Nat) (aA : Nat) (sA : Int32) (zA : Int64) (sM : Int32) (zM : Int64) (vO : Int32) (n : Int32) : kM (S := (Int64)) l yX0_right wsX0_right ({ frames := 0, cells := 0, slots := 0, locals := 0 }) D (kT cI cL cB cZ cT) [.ref aA, .int n] [(aA, .inr (0, [.int sA, .long zA, .int sM, .long zM, .int vO]))] sz eV (fun _ _ => True) (fun u => [(aA, .inr (0, [.int sA, .long u, .int sM, .long zM, .int vO]))]) 0 0 := by
  refine kStart (cc := cX0_right) (maxL := 2) (ret := none) (own := RX0) (by decide) rfl rfl (Nat.le_of_ble_eq_true rfl) ?_
  intro p e s m args below meth c A ls hx hb hr hml hown hts hlocks hnm hsz hA hG hP hD hS hl
  have hK := hG.1
  have hl : lv_has ls 2 [(0, .ref aA), (1, .int n)] := hl
  refine lv_aload_n hx hb dX0_right_0 rfl (lv_at hl 0 rfl) ?_
  refine lv_dup hx hb dX0_right_1 rfl ?_
  refine va_get (D := D) (ci := 0) (v := .long zA) (C := RX0) (T := TX0) (N := 5) hx hb hts iX0_right_X0 hown hK hP 0 rfl rfl 1 (by decide) (hts (.fieldLink RX0 15 "TapeCalculator$Arithmetic" "accSize" "J") (List.mem_of_getElem? (i := 1) rfl)) (fun _ h9 => h9) rfl dX0_right_2 ?_
  refine lv_iload_n hx hb dX0_right_5 rfl (lv_at hl 1 rfl) ?_
  refine lv_lshr hx hb dX0_right_6 rfl ?_
  refine lv_topl (fun x_1 ex_1 => ?_)
  refine va_put (D := D) (ci := 0) (v := .long x_1) (ty := .long) (C := RX0) (T := TX0) (N := 5) hx hb hts iX0_right_X0 tyX0 tyX0_ok nmX0 hown hK hP hD hS 0 rfl rfl 1 (by decide) (hts (.fieldLink RX0 15 "TapeCalculator$Arithmetic" "accSize" "J") (List.mem_of_getElem? (i := 1) rfl)) (fun _ h9 => h9) rfl (by decide +kernel) rfl rfl (Nat.le_of_ble_eq_true rfl) dX0_right_7 (fun H locs hP hD hS => ?_)
  have hP : va_P D vwCl [(aA, .inr (0, [.int sA, .long x_1, .int sM, .long zM, .int vO]))] H := hP
  have hD : va_D A [(aA, .inr (0, [.int sA, .long x_1, .int sM, .long zM, .int vO]))] := hD
  refine kVret (u := x_1) hx hb hr hlocks hS dX0_right_10 ?_ (hP.sub [0] rfl) (hD.sub [0] (by decide) rfl)
  exact trivial
set_option maxRecDepth 100000 in
theorem iX0_leftBoth_X0 : ∀ w ∈ wsX00, w ∈ wsX0_leftBoth := fun w h => (goodIn_r (big := wsX0_leftBoth) wsX00 [16, 17, 18, 19, 20] rfl (by decide +kernel) w h).1
set_option maxRecDepth 100000 in
set_option maxHeartbeats 4000000 in
theorem g_leftBoth (l : Launch) (D : va_G) (cI cL cB cZ cT : ClassId) (sz : Nat) (aA : Nat) (sA : Int32) (zA : Int64) (sM : Int32) (zM : Int64) (vO : Int32) (n : Int32) : kM (S := (Int32 × Int64 × Int64 × Int32)) l yX0_leftBoth wsX0_leftBoth ({ frames := 2, cells := 0, slots := 0, locals := 44 }) D (kT cI cL cB cZ cT) [.ref aA, .int n] [(aA, .inr (0, [.int sA, .long zA, .int sM, .long zM, .int vO]))] sz eV (fun _ _ => True) (fun u => [(aA, .inr (0, [.int u.1, .long u.2.1, .int sM, .long u.2.2.1, .int u.2.2.2]))]) 0 0 := by
  refine kStart (cc := cX0_leftBoth) (maxL := 3) (ret := none) (own := RX0) (by decide) rfl rfl (Nat.le_of_ble_eq_true rfl) ?_
  intro p e s m args below meth c A ls hx hb hr hml hown hts hlocks hnm hsz hA hG hP hD hS hl
  have hK := hG.1
  have hl : lv_has ls 3 [(0, .ref aA), (1, .int n)] := hl
  refine lv_iload_n hx hb dX0_leftBoth_0 rfl (lv_at hl 1 rfl) ?_
  refine lv_bipush (v := 35) hx hb dX0_leftBoth_1 (by decide) ?_
  refine lv_isub hx hb dX0_leftBoth_3 ?_
  refine lv_topi (fun x_1 ex_1 => ?_)
  refine lv_istore_n (lv' := [(2, .int x_1), (0, .ref aA), (1, .int n)]) hx hb dX0_leftBoth_4 rfl hl (by decide) rfl (fun ls hl => ?_)
  refine lv_aload_n hx hb dX0_leftBoth_5 rfl (lv_at hl 1 rfl) ?_
  refine lv_iload_n hx hb dX0_leftBoth_6 rfl (lv_at hl 2 rfl) ?_
  refine kCallVd (wr := []) (va_runV (As := [.int n]) (rest := []) ⟨hx, hb, hml, hown, hts⟩ (g_left l D cI cL cB cZ cT _ aA sA zA sM zM vO n) (cwV 1 hts gX0_leftBoth_X0_left rfl rfl rfl (by decide +kernel) ⟨Nat.le_of_ble_eq_true rfl, Nat.le_of_ble_eq_true rfl⟩) (kPreV hG hP hD [0] rfl (by decide) 0 0 rfl rfl rfl) rfl rfl hl.1 rfl (lv_room (Nat.le_of_ble_eq_true rfl)) dX0_leftBoth_7 ⟨Nat.le_of_ble_eq_true rfl, Nat.le_of_ble_eq_true rfl⟩) hA hP hD hS [0] [] rfl rfl (by decide) (by decide) (fun _ u_r_2 H locs wr_2 hP hD hS => ?_)
  have hP : va_P D vwCl [(aA, .inr (0, [.int sA, .long u_r_2.1, .int sM, .long zM, .int u_r_2.2]))] H := hP
  have hD : va_D A [(aA, .inr (0, [.int sA, .long u_r_2.1, .int sM, .long zM, .int u_r_2.2]))] := hD
  try dsimp only at wr_2
  refine lv_aload_n hx hb dX0_leftBoth_10 rfl (lv_at hl 1 rfl) ?_
  refine lv_aload_n hx hb dX0_leftBoth_11 rfl (lv_at hl 1 rfl) ?_
  refine va_get (D := D) (ci := 0) (v := .int u_r_2.2) (C := RX0) (T := TX0) (N := 5) hx hb hts iX0_leftBoth_X0 hown hK hP 0 rfl rfl 4 (by decide) (hts (.fieldLink RX0 52 "TapeCalculator$Arithmetic" "over" "Z") (List.mem_of_getElem? (i := 1) rfl)) (fun _ h9 => h9) rfl dX0_leftBoth_12 ?_
  refine lv_if_ne (tgt := 29) hx hb dX0_leftBoth_15 (by decide) (fun c_15_2 => ?_) (fun c_15_2 => ?_)
  · have t_15_2 := c_15_2
    try simp only [kb_eq0, kb_ne0, lg_cmp_lt, lg_cmp_le, lg_cmp_gt, lg_cmp_ge, lg_cmp_eq] at t_15_2
    try simp only [Int32.lt_iff_toInt_lt, Int32.le_iff_toInt_le, ← Int32.toInt_inj, Int64.lt_iff_toInt_lt, Int64.le_iff_toInt_le, ← Int64.toInt_inj, Int32.toInt_toInt64, Int32.reduceToInt, Int64.reduceToInt] at t_15_2
    refine lv_iconst (v := 1) hx hb dX0_leftBoth_29 (by decide) ?_
    refine lv_goto (tgt := 34) hx hb dX0_leftBoth_30 (by decide) ?_
    refine va_put (D := D) (ci := 0) (v := .int 1) (ty := .boolean) (C := RX0) (T := TX0) (N := 5) hx hb hts iX0_leftBoth_X0 tyX0 tyX0_ok nmX0 hown hK hP hD hS 0 rfl rfl 4 (by decide) (hts (.fieldLink RX0 52 "TapeCalculator$Arithmetic" "over" "Z") (List.mem_of_getElem? (i := 1) rfl)) (fun _ h9 => h9) rfl (by decide +kernel) rfl rfl (Nat.le_of_ble_eq_true rfl) dX0_leftBoth_34 (fun H locs hP hD hS => ?_)
    have hP : va_P D vwCl [(aA, .inr (0, [.int sA, .long u_r_2.1, .int sM, .long zM, .int 1]))] H := hP
    have hD : va_D A [(aA, .inr (0, [.int sA, .long u_r_2.1, .int sM, .long zM, .int 1]))] := hD
    refine lv_aload_n hx hb dX0_leftBoth_37 rfl (lv_at hl 1 rfl) ?_
    refine lv_dup hx hb dX0_leftBoth_38 rfl ?_
    refine va_get (D := D) (ci := 0) (v := .long u_r_2.1) (C := RX0) (T := TX0) (N := 5) hx hb hts iX0_leftBoth_X0 hown hK hP 0 rfl rfl 1 (by decide) (hts (.fieldLink RX0 15 "TapeCalculator$Arithmetic" "accSize" "J") (List.mem_of_getElem? (i := 3) rfl)) (fun _ h9 => h9) rfl dX0_leftBoth_39 ?_
    refine lv_iload_n hx hb dX0_leftBoth_42 rfl (lv_at hl 0 rfl) ?_
    refine lv_if_ge (tgt := 56) hx hb dX0_leftBoth_43 (by decide) (fun c_43_3 => ?_) (fun c_43_3 => ?_)
    · have t_43_3 := c_43_3
      try simp only [kb_eq0, kb_ne0, lg_cmp_lt, lg_cmp_le, lg_cmp_gt, lg_cmp_ge, lg_cmp_eq] at t_43_3
      try simp only [Int32.lt_iff_toInt_lt, Int32.le_iff_toInt_le, ← Int32.toInt_inj, Int64.lt_iff_toInt_lt, Int64.le_iff_toInt_le, ← Int64.toInt_inj, Int32.toInt_toInt64, Int32.reduceToInt, Int64.reduceToInt] at t_43_3
      refine lv_aload_n hx hb dX0_leftBoth_56 rfl (lv_at hl 1 rfl) ?_
      refine va_get (D := D) (ci := 0) (v := .long zM) (C := RX0) (T := TX0) (N := 5) hx hb hts iX0_leftBoth_X0 hown hK hP 0 rfl rfl 3 (by decide) (hts (.fieldLink RX0 26 "TapeCalculator$Arithmetic" "mqSize" "J") (List.mem_of_getElem? (i := 2) rfl)) (fun _ h9 => h9) rfl dX0_leftBoth_57 ?_
      refine lv_iload_n hx hb dX0_leftBoth_60 rfl (lv_at hl 0 rfl) ?_
      refine lv_lshl hx hb dX0_leftBoth_61 rfl ?_
      refine lv_ldc2 (v := 137438953471) hx hb hown (hts (.constantLong RX0 56 (137438953471)) (List.mem_of_getElem? (i := 4) rfl)) dX0_leftBoth_62 ?_
      refine lv_land hx hb dX0_leftBoth_65 ?_
      refine lv_lor hx hb dX0_leftBoth_66 ?_
      refine lv_topl (fun x_5 ex_5 => ?_)
      refine va_put (D := D) (ci := 0) (v := .long x_5) (ty := .long) (C := RX0) (T := TX0) (N := 5) hx hb hts iX0_leftBoth_X0 tyX0 tyX0_ok nmX0 hown hK hP hD hS 0 rfl rfl 1 (by decide) (hts (.fieldLink RX0 15 "TapeCalculator$Arithmetic" "accSize" "J") (List.mem_of_getElem? (i := 3) rfl)) (fun _ h9 => h9) rfl (by decide +kernel) rfl rfl (Nat.le_of_ble_eq_true rfl) dX0_leftBoth_67 (fun H locs hP hD hS => ?_)
      have hP : va_P D vwCl [(aA, .inr (0, [.int sA, .long x_5, .int sM, .long zM, .int 1]))] H := hP
      have hD : va_D A [(aA, .inr (0, [.int sA, .long x_5, .int sM, .long zM, .int 1]))] := hD
      refine lv_aload_n hx hb dX0_leftBoth_70 rfl (lv_at hl 1 rfl) ?_
      refine lv_aload_n hx hb dX0_leftBoth_71 rfl (lv_at hl 1 rfl) ?_
      refine va_get (D := D) (ci := 0) (v := .long zM) (C := RX0) (T := TX0) (N := 5) hx hb hts iX0_leftBoth_X0 hown hK hP 0 rfl rfl 3 (by decide) (hts (.fieldLink RX0 26 "TapeCalculator$Arithmetic" "mqSize" "J") (List.mem_of_getElem? (i := 2) rfl)) (fun _ h9 => h9) rfl dX0_leftBoth_72 ?_
      refine lv_iload_n hx hb dX0_leftBoth_75 rfl (lv_at hl 2 rfl) ?_
      refine lv_lshl hx hb dX0_leftBoth_76 rfl ?_
      refine lv_ldc2 (v := 34359738367) hx hb hown (hts (.constantLong RX0 29 (34359738367)) (List.mem_of_getElem? (i := 5) rfl)) dX0_leftBoth_77 ?_
      refine lv_land hx hb dX0_leftBoth_80 ?_
      refine lv_topl (fun x_6 ex_6 => ?_)
      refine va_put (D := D) (ci := 0) (v := .long x_6) (ty := .long) (C := RX0) (T := TX0) (N := 5) hx hb hts iX0_leftBoth_X0 tyX0 tyX0_ok nmX0 hown hK hP hD hS 0 rfl rfl 3 (by decide) (hts (.fieldLink RX0 26 "TapeCalculator$Arithmetic" "mqSize" "J") (List.mem_of_getElem? (i := 2) rfl)) (fun _ h9 => h9) rfl (by decide +kernel) rfl rfl (Nat.le_of_ble_eq_true rfl) dX0_leftBoth_81 (fun H locs hP hD hS => ?_)
      have hP : va_P D vwCl [(aA, .inr (0, [.int sA, .long x_5, .int sM, .long x_6, .int 1]))] H := hP
      have hD : va_D A [(aA, .inr (0, [.int sA, .long x_5, .int sM, .long x_6, .int 1]))] := hD
      refine lv_aload_n hx hb dX0_leftBoth_84 rfl (lv_at hl 1 rfl) ?_
      refine lv_aload_n hx hb dX0_leftBoth_85 rfl (lv_at hl 1 rfl) ?_
      refine va_get (D := D) (ci := 0) (v := .int sM) (C := RX0) (T := TX0) (N := 5) hx hb hts iX0_leftBoth_X0 hown hK hP 0 rfl rfl 2 (by decide) (hts (.fieldLink RX0 23 "TapeCalculator$Arithmetic" "mqSign" "I") (List.mem_of_getElem? (i := 6) rfl)) (fun _ h9 => h9) rfl dX0_leftBoth_86 ?_
      refine va_put (D := D) (ci := 0) (v := .int sM) (ty := .int) (C := RX0) (T := TX0) (N := 5) hx hb hts iX0_leftBoth_X0 tyX0 tyX0_ok nmX0 hown hK hP hD hS 0 rfl rfl 0 (by decide) (hts (.fieldLink RX0 9 "TapeCalculator$Arithmetic" "accSign" "I") (List.mem_of_getElem? (i := 7) rfl)) (fun _ h9 => h9) rfl (by decide +kernel) rfl rfl (Nat.le_of_ble_eq_true rfl) dX0_leftBoth_89 (fun H locs hP hD hS => ?_)
      have hP : va_P D vwCl [(aA, .inr (0, [.int sM, .long x_5, .int sM, .long x_6, .int 1]))] H := hP
      have hD : va_D A [(aA, .inr (0, [.int sM, .long x_5, .int sM, .long x_6, .int 1]))] := hD
      refine kVret (u := (sM, x_5, x_6, 1)) hx hb hr hlocks hS dX0_leftBoth_92 ?_ (hP.sub [0] rfl) (hD.sub [0] (by decide) rfl)
      exact trivial
    · have t_43_3 := c_43_3
      try simp only [kb_eq0, kb_ne0, lg_cmp_lt, lg_cmp_le, lg_cmp_gt, lg_cmp_ge, lg_cmp_eq] at t_43_3
      try simp only [Int32.lt_iff_toInt_lt, Int32.le_iff_toInt_le, ← Int32.toInt_inj, Int64.lt_iff_toInt_lt, Int64.le_iff_toInt_le, ← Int64.toInt_inj, Int32.toInt_toInt64, Int32.reduceToInt, Int64.reduceToInt] at t_43_3
      refine lv_aload_n hx hb dX0_leftBoth_46 rfl (lv_at hl 1 rfl) ?_
      refine va_get (D := D) (ci := 0) (v := .long zM) (C := RX0) (T := TX0) (N := 5) hx hb hts iX0_leftBoth_X0 hown hK hP 0 rfl rfl 3 (by decide) (hts (.fieldLink RX0 26 "TapeCalculator$Arithmetic" "mqSize" "J") (List.mem_of_getElem? (i := 2) rfl)) (fun _ h9 => h9) rfl dX0_leftBoth_47 ?_
      refine lv_iload_n hx hb dX0_leftBoth_50 rfl (lv_at hl 0 rfl) ?_
      refine lv_ineg hx hb dX0_leftBoth_51 ?_
      refine lv_lshr hx hb dX0_leftBoth_52 rfl ?_
      refine lv_goto (tgt := 62) hx hb dX0_leftBoth_53 (by decide) ?_
      refine lv_ldc2 (v := 137438953471) hx hb hown (hts (.constantLong RX0 56 (137438953471)) (List.mem_of_getElem? (i := 4) rfl)) dX0_leftBoth_62 ?_
      refine lv_land hx hb dX0_leftBoth_65 ?_
      refine lv_lor hx hb dX0_leftBoth_66 ?_
      refine lv_topl (fun x_7 ex_7 => ?_)
      refine va_put (D := D) (ci := 0) (v := .long x_7) (ty := .long) (C := RX0) (T := TX0) (N := 5) hx hb hts iX0_leftBoth_X0 tyX0 tyX0_ok nmX0 hown hK hP hD hS 0 rfl rfl 1 (by decide) (hts (.fieldLink RX0 15 "TapeCalculator$Arithmetic" "accSize" "J") (List.mem_of_getElem? (i := 3) rfl)) (fun _ h9 => h9) rfl (by decide +kernel) rfl rfl (Nat.le_of_ble_eq_true rfl) dX0_leftBoth_67 (fun H locs hP hD hS => ?_)
      have hP : va_P D vwCl [(aA, .inr (0, [.int sA, .long x_7, .int sM, .long zM, .int 1]))] H := hP
      have hD : va_D A [(aA, .inr (0, [.int sA, .long x_7, .int sM, .long zM, .int 1]))] := hD
      refine lv_aload_n hx hb dX0_leftBoth_70 rfl (lv_at hl 1 rfl) ?_
      refine lv_aload_n hx hb dX0_leftBoth_71 rfl (lv_at hl 1 rfl) ?_
      refine va_get (D := D) (ci := 0) (v := .long zM) (C := RX0) (T := TX0) (N := 5) hx hb hts iX0_leftBoth_X0 hown hK hP 0 rfl rfl 3 (by decide) (hts (.fieldLink RX0 26 "TapeCalculator$Arithmetic" "mqSize" "J") (List.mem_of_getElem? (i := 2) rfl)) (fun _ h9 => h9) rfl dX0_leftBoth_72 ?_
      refine lv_iload_n hx hb dX0_leftBoth_75 rfl (lv_at hl 2 rfl) ?_
      refine lv_lshl hx hb dX0_leftBoth_76 rfl ?_
      refine lv_ldc2 (v := 34359738367) hx hb hown (hts (.constantLong RX0 29 (34359738367)) (List.mem_of_getElem? (i := 5) rfl)) dX0_leftBoth_77 ?_
      refine lv_land hx hb dX0_leftBoth_80 ?_
      refine lv_topl (fun x_8 ex_8 => ?_)
      refine va_put (D := D) (ci := 0) (v := .long x_8) (ty := .long) (C := RX0) (T := TX0) (N := 5) hx hb hts iX0_leftBoth_X0 tyX0 tyX0_ok nmX0 hown hK hP hD hS 0 rfl rfl 3 (by decide) (hts (.fieldLink RX0 26 "TapeCalculator$Arithmetic" "mqSize" "J") (List.mem_of_getElem? (i := 2) rfl)) (fun _ h9 => h9) rfl (by decide +kernel) rfl rfl (Nat.le_of_ble_eq_true rfl) dX0_leftBoth_81 (fun H locs hP hD hS => ?_)
      have hP : va_P D vwCl [(aA, .inr (0, [.int sA, .long x_7, .int sM, .long x_8, .int 1]))] H := hP
      have hD : va_D A [(aA, .inr (0, [.int sA, .long x_7, .int sM, .long x_8, .int 1]))] := hD
      refine lv_aload_n hx hb dX0_leftBoth_84 rfl (lv_at hl 1 rfl) ?_
      refine lv_aload_n hx hb dX0_leftBoth_85 rfl (lv_at hl 1 rfl) ?_
      refine va_get (D := D) (ci := 0) (v := .int sM) (C := RX0) (T := TX0) (N := 5) hx hb hts iX0_leftBoth_X0 hown hK hP 0 rfl rfl 2 (by decide) (hts (.fieldLink RX0 23 "TapeCalculator$Arithmetic" "mqSign" "I") (List.mem_of_getElem? (i := 6) rfl)) (fun _ h9 => h9) rfl dX0_leftBoth_86 ?_
      refine va_put (D := D) (ci := 0) (v := .int sM) (ty := .int) (C := RX0) (T := TX0) (N := 5) hx hb hts iX0_leftBoth_X0 tyX0 tyX0_ok nmX0 hown hK hP hD hS 0 rfl rfl 0 (by decide) (hts (.fieldLink RX0 9 "TapeCalculator$Arithmetic" "accSign" "I") (List.mem_of_getElem? (i := 7) rfl)) (fun _ h9 => h9) rfl (by decide +kernel) rfl rfl (Nat.le_of_ble_eq_true rfl) dX0_leftBoth_89 (fun H locs hP hD hS => ?_)
      have hP : va_P D vwCl [(aA, .inr (0, [.int sM, .long x_7, .int sM, .long x_8, .int 1]))] H := hP
      have hD : va_D A [(aA, .inr (0, [.int sM, .long x_7, .int sM, .long x_8, .int 1]))] := hD
      refine kVret (u := (sM, x_7, x_8, 1)) hx hb hr hlocks hS dX0_leftBoth_92 ?_ (hP.sub [0] rfl) (hD.sub [0] (by decide) rfl)
      exact trivial
  · have t_15_2 := c_15_2
    try simp only [kb_eq0, kb_ne0, lg_cmp_lt, lg_cmp_le, lg_cmp_gt, lg_cmp_ge, lg_cmp_eq] at t_15_2
    try simp only [Int32.lt_iff_toInt_lt, Int32.le_iff_toInt_le, ← Int32.toInt_inj, Int64.lt_iff_toInt_lt, Int64.le_iff_toInt_le, ← Int64.toInt_inj, Int32.toInt_toInt64, Int32.reduceToInt, Int64.reduceToInt] at t_15_2
    refine lv_aload_n hx hb dX0_leftBoth_18 rfl (lv_at hl 1 rfl) ?_
    refine va_get (D := D) (ci := 0) (v := .long zM) (C := RX0) (T := TX0) (N := 5) hx hb hts iX0_leftBoth_X0 hown hK hP 0 rfl rfl 3 (by decide) (hts (.fieldLink RX0 26 "TapeCalculator$Arithmetic" "mqSize" "J") (List.mem_of_getElem? (i := 2) rfl)) (fun _ h9 => h9) rfl dX0_leftBoth_19 ?_
    refine lv_iload_n hx hb dX0_leftBoth_22 rfl (lv_at hl 0 rfl) ?_
    refine kCallI (wr := [(aA, .inr (0, [.int sA, .long u_r_2.1, .int sM, .long zM, .int u_r_2.2]))]) (va_runS (As := [.long zM, .int x_1]) (rest := [.ref aA]) ⟨hx, hb, hml, hown, hts⟩ (g_hasOne l D cI cL cB cZ cT _ zM x_1) (va_cwS 2 hts gX0_leftBoth_X0_hasOneAhead rfl rfl rfl (by decide +kernel) ⟨Nat.le_of_ble_eq_true rfl, Nat.le_of_ble_eq_true rfl⟩) (kPreS hG hP hD [] rfl (by decide)) rfl rfl hl.1 rfl (lv_room (Nat.le_of_ble_eq_true rfl)) dX0_leftBoth_23 ⟨Nat.le_of_ble_eq_true rfl, Nat.le_of_ble_eq_true rfl⟩) hA hP hD hS [] [0] rfl rfl (by decide) (by decide) (fun r_9 u_r_9 H locs wr_9 hP hD hS => ?_)
    have hP : va_P D vwCl [(aA, .inr (0, [.int sA, .long u_r_2.1, .int sM, .long zM, .int u_r_2.2]))] H := hP
    have hD : va_D A [(aA, .inr (0, [.int sA, .long u_r_2.1, .int sM, .long zM, .int u_r_2.2]))] := hD
    try dsimp only at wr_9
    refine lv_if_eq (tgt := 33) hx hb dX0_leftBoth_26 (by decide) (fun c_26_9 => ?_) (fun c_26_9 => ?_)
    · have t_26_9 := c_26_9
      try simp only [kb_eq0, kb_ne0, lg_cmp_lt, lg_cmp_le, lg_cmp_gt, lg_cmp_ge, lg_cmp_eq] at t_26_9
      try simp only [Int32.lt_iff_toInt_lt, Int32.le_iff_toInt_le, ← Int32.toInt_inj, Int64.lt_iff_toInt_lt, Int64.le_iff_toInt_le, ← Int64.toInt_inj, Int32.toInt_toInt64, Int32.reduceToInt, Int64.reduceToInt] at t_26_9
      refine lv_iconst (v := 0) hx hb dX0_leftBoth_33 (by decide) ?_
      refine va_put (D := D) (ci := 0) (v := .int 0) (ty := .boolean) (C := RX0) (T := TX0) (N := 5) hx hb hts iX0_leftBoth_X0 tyX0 tyX0_ok nmX0 hown hK hP hD hS 0 rfl rfl 4 (by decide) (hts (.fieldLink RX0 52 "TapeCalculator$Arithmetic" "over" "Z") (List.mem_of_getElem? (i := 1) rfl)) (fun _ h9 => h9) rfl (by decide +kernel) rfl rfl (Nat.le_of_ble_eq_true rfl) dX0_leftBoth_34 (fun H locs hP hD hS => ?_)
      have hP : va_P D vwCl [(aA, .inr (0, [.int sA, .long u_r_2.1, .int sM, .long zM, .int 0]))] H := hP
      have hD : va_D A [(aA, .inr (0, [.int sA, .long u_r_2.1, .int sM, .long zM, .int 0]))] := hD
      refine lv_aload_n hx hb dX0_leftBoth_37 rfl (lv_at hl 1 rfl) ?_
      refine lv_dup hx hb dX0_leftBoth_38 rfl ?_
      refine va_get (D := D) (ci := 0) (v := .long u_r_2.1) (C := RX0) (T := TX0) (N := 5) hx hb hts iX0_leftBoth_X0 hown hK hP 0 rfl rfl 1 (by decide) (hts (.fieldLink RX0 15 "TapeCalculator$Arithmetic" "accSize" "J") (List.mem_of_getElem? (i := 3) rfl)) (fun _ h9 => h9) rfl dX0_leftBoth_39 ?_
      refine lv_iload_n hx hb dX0_leftBoth_42 rfl (lv_at hl 0 rfl) ?_
      refine lv_if_ge (tgt := 56) hx hb dX0_leftBoth_43 (by decide) (fun c_43_10 => ?_) (fun c_43_10 => ?_)
      · have t_43_10 := c_43_10
        try simp only [kb_eq0, kb_ne0, lg_cmp_lt, lg_cmp_le, lg_cmp_gt, lg_cmp_ge, lg_cmp_eq] at t_43_10
        try simp only [Int32.lt_iff_toInt_lt, Int32.le_iff_toInt_le, ← Int32.toInt_inj, Int64.lt_iff_toInt_lt, Int64.le_iff_toInt_le, ← Int64.toInt_inj, Int32.toInt_toInt64, Int32.reduceToInt, Int64.reduceToInt] at t_43_10
        refine lv_aload_n hx hb dX0_leftBoth_56 rfl (lv_at hl 1 rfl) ?_
        refine va_get (D := D) (ci := 0) (v := .long zM) (C := RX0) (T := TX0) (N := 5) hx hb hts iX0_leftBoth_X0 hown hK hP 0 rfl rfl 3 (by decide) (hts (.fieldLink RX0 26 "TapeCalculator$Arithmetic" "mqSize" "J") (List.mem_of_getElem? (i := 2) rfl)) (fun _ h9 => h9) rfl dX0_leftBoth_57 ?_
        refine lv_iload_n hx hb dX0_leftBoth_60 rfl (lv_at hl 0 rfl) ?_
        refine lv_lshl hx hb dX0_leftBoth_61 rfl ?_
        refine lv_ldc2 (v := 137438953471) hx hb hown (hts (.constantLong RX0 56 (137438953471)) (List.mem_of_getElem? (i := 4) rfl)) dX0_leftBoth_62 ?_
        refine lv_land hx hb dX0_leftBoth_65 ?_
        refine lv_lor hx hb dX0_leftBoth_66 ?_
        refine lv_topl (fun x_12 ex_12 => ?_)
        refine va_put (D := D) (ci := 0) (v := .long x_12) (ty := .long) (C := RX0) (T := TX0) (N := 5) hx hb hts iX0_leftBoth_X0 tyX0 tyX0_ok nmX0 hown hK hP hD hS 0 rfl rfl 1 (by decide) (hts (.fieldLink RX0 15 "TapeCalculator$Arithmetic" "accSize" "J") (List.mem_of_getElem? (i := 3) rfl)) (fun _ h9 => h9) rfl (by decide +kernel) rfl rfl (Nat.le_of_ble_eq_true rfl) dX0_leftBoth_67 (fun H locs hP hD hS => ?_)
        have hP : va_P D vwCl [(aA, .inr (0, [.int sA, .long x_12, .int sM, .long zM, .int 0]))] H := hP
        have hD : va_D A [(aA, .inr (0, [.int sA, .long x_12, .int sM, .long zM, .int 0]))] := hD
        refine lv_aload_n hx hb dX0_leftBoth_70 rfl (lv_at hl 1 rfl) ?_
        refine lv_aload_n hx hb dX0_leftBoth_71 rfl (lv_at hl 1 rfl) ?_
        refine va_get (D := D) (ci := 0) (v := .long zM) (C := RX0) (T := TX0) (N := 5) hx hb hts iX0_leftBoth_X0 hown hK hP 0 rfl rfl 3 (by decide) (hts (.fieldLink RX0 26 "TapeCalculator$Arithmetic" "mqSize" "J") (List.mem_of_getElem? (i := 2) rfl)) (fun _ h9 => h9) rfl dX0_leftBoth_72 ?_
        refine lv_iload_n hx hb dX0_leftBoth_75 rfl (lv_at hl 2 rfl) ?_
        refine lv_lshl hx hb dX0_leftBoth_76 rfl ?_
        refine lv_ldc2 (v := 34359738367) hx hb hown (hts (.constantLong RX0 29 (34359738367)) (List.mem_of_getElem? (i := 5) rfl)) dX0_leftBoth_77 ?_
        refine lv_land hx hb dX0_leftBoth_80 ?_
        refine lv_topl (fun x_13 ex_13 => ?_)
        refine va_put (D := D) (ci := 0) (v := .long x_13) (ty := .long) (C := RX0) (T := TX0) (N := 5) hx hb hts iX0_leftBoth_X0 tyX0 tyX0_ok nmX0 hown hK hP hD hS 0 rfl rfl 3 (by decide) (hts (.fieldLink RX0 26 "TapeCalculator$Arithmetic" "mqSize" "J") (List.mem_of_getElem? (i := 2) rfl)) (fun _ h9 => h9) rfl (by decide +kernel) rfl rfl (Nat.le_of_ble_eq_true rfl) dX0_leftBoth_81 (fun H locs hP hD hS => ?_)
        have hP : va_P D vwCl [(aA, .inr (0, [.int sA, .long x_12, .int sM, .long x_13, .int 0]))] H := hP
        have hD : va_D A [(aA, .inr (0, [.int sA, .long x_12, .int sM, .long x_13, .int 0]))] := hD
        refine lv_aload_n hx hb dX0_leftBoth_84 rfl (lv_at hl 1 rfl) ?_
        refine lv_aload_n hx hb dX0_leftBoth_85 rfl (lv_at hl 1 rfl) ?_
        refine va_get (D := D) (ci := 0) (v := .int sM) (C := RX0) (T := TX0) (N := 5) hx hb hts iX0_leftBoth_X0 hown hK hP 0 rfl rfl 2 (by decide) (hts (.fieldLink RX0 23 "TapeCalculator$Arithmetic" "mqSign" "I") (List.mem_of_getElem? (i := 6) rfl)) (fun _ h9 => h9) rfl dX0_leftBoth_86 ?_
        refine va_put (D := D) (ci := 0) (v := .int sM) (ty := .int) (C := RX0) (T := TX0) (N := 5) hx hb hts iX0_leftBoth_X0 tyX0 tyX0_ok nmX0 hown hK hP hD hS 0 rfl rfl 0 (by decide) (hts (.fieldLink RX0 9 "TapeCalculator$Arithmetic" "accSign" "I") (List.mem_of_getElem? (i := 7) rfl)) (fun _ h9 => h9) rfl (by decide +kernel) rfl rfl (Nat.le_of_ble_eq_true rfl) dX0_leftBoth_89 (fun H locs hP hD hS => ?_)
        have hP : va_P D vwCl [(aA, .inr (0, [.int sM, .long x_12, .int sM, .long x_13, .int 0]))] H := hP
        have hD : va_D A [(aA, .inr (0, [.int sM, .long x_12, .int sM, .long x_13, .int 0]))] := hD
        refine kVret (u := (sM, x_12, x_13, 0)) hx hb hr hlocks hS dX0_leftBoth_92 ?_ (hP.sub [0] rfl) (hD.sub [0] (by decide) rfl)
        exact trivial
      · have t_43_10 := c_43_10
        try simp only [kb_eq0, kb_ne0, lg_cmp_lt, lg_cmp_le, lg_cmp_gt, lg_cmp_ge, lg_cmp_eq] at t_43_10
        try simp only [Int32.lt_iff_toInt_lt, Int32.le_iff_toInt_le, ← Int32.toInt_inj, Int64.lt_iff_toInt_lt, Int64.le_iff_toInt_le, ← Int64.toInt_inj, Int32.toInt_toInt64, Int32.reduceToInt, Int64.reduceToInt] at t_43_10
        refine lv_aload_n hx hb dX0_leftBoth_46 rfl (lv_at hl 1 rfl) ?_
        refine va_get (D := D) (ci := 0) (v := .long zM) (C := RX0) (T := TX0) (N := 5) hx hb hts iX0_leftBoth_X0 hown hK hP 0 rfl rfl 3 (by decide) (hts (.fieldLink RX0 26 "TapeCalculator$Arithmetic" "mqSize" "J") (List.mem_of_getElem? (i := 2) rfl)) (fun _ h9 => h9) rfl dX0_leftBoth_47 ?_
        refine lv_iload_n hx hb dX0_leftBoth_50 rfl (lv_at hl 0 rfl) ?_
        refine lv_ineg hx hb dX0_leftBoth_51 ?_
        refine lv_lshr hx hb dX0_leftBoth_52 rfl ?_
        refine lv_goto (tgt := 62) hx hb dX0_leftBoth_53 (by decide) ?_
        refine lv_ldc2 (v := 137438953471) hx hb hown (hts (.constantLong RX0 56 (137438953471)) (List.mem_of_getElem? (i := 4) rfl)) dX0_leftBoth_62 ?_
        refine lv_land hx hb dX0_leftBoth_65 ?_
        refine lv_lor hx hb dX0_leftBoth_66 ?_
        refine lv_topl (fun x_14 ex_14 => ?_)
        refine va_put (D := D) (ci := 0) (v := .long x_14) (ty := .long) (C := RX0) (T := TX0) (N := 5) hx hb hts iX0_leftBoth_X0 tyX0 tyX0_ok nmX0 hown hK hP hD hS 0 rfl rfl 1 (by decide) (hts (.fieldLink RX0 15 "TapeCalculator$Arithmetic" "accSize" "J") (List.mem_of_getElem? (i := 3) rfl)) (fun _ h9 => h9) rfl (by decide +kernel) rfl rfl (Nat.le_of_ble_eq_true rfl) dX0_leftBoth_67 (fun H locs hP hD hS => ?_)
        have hP : va_P D vwCl [(aA, .inr (0, [.int sA, .long x_14, .int sM, .long zM, .int 0]))] H := hP
        have hD : va_D A [(aA, .inr (0, [.int sA, .long x_14, .int sM, .long zM, .int 0]))] := hD
        refine lv_aload_n hx hb dX0_leftBoth_70 rfl (lv_at hl 1 rfl) ?_
        refine lv_aload_n hx hb dX0_leftBoth_71 rfl (lv_at hl 1 rfl) ?_
        refine va_get (D := D) (ci := 0) (v := .long zM) (C := RX0) (T := TX0) (N := 5) hx hb hts iX0_leftBoth_X0 hown hK hP 0 rfl rfl 3 (by decide) (hts (.fieldLink RX0 26 "TapeCalculator$Arithmetic" "mqSize" "J") (List.mem_of_getElem? (i := 2) rfl)) (fun _ h9 => h9) rfl dX0_leftBoth_72 ?_
        refine lv_iload_n hx hb dX0_leftBoth_75 rfl (lv_at hl 2 rfl) ?_
        refine lv_lshl hx hb dX0_leftBoth_76 rfl ?_
        refine lv_ldc2 (v := 34359738367) hx hb hown (hts (.constantLong RX0 29 (34359738367)) (List.mem_of_getElem? (i := 5) rfl)) dX0_leftBoth_77 ?_
        refine lv_land hx hb dX0_leftBoth_80 ?_
        refine lv_topl (fun x_15 ex_15 => ?_)
        refine va_put (D := D) (ci := 0) (v := .long x_15) (ty := .long) (C := RX0) (T := TX0) (N := 5) hx hb hts iX0_leftBoth_X0 tyX0 tyX0_ok nmX0 hown hK hP hD hS 0 rfl rfl 3 (by decide) (hts (.fieldLink RX0 26 "TapeCalculator$Arithmetic" "mqSize" "J") (List.mem_of_getElem? (i := 2) rfl)) (fun _ h9 => h9) rfl (by decide +kernel) rfl rfl (Nat.le_of_ble_eq_true rfl) dX0_leftBoth_81 (fun H locs hP hD hS => ?_)
        have hP : va_P D vwCl [(aA, .inr (0, [.int sA, .long x_14, .int sM, .long x_15, .int 0]))] H := hP
        have hD : va_D A [(aA, .inr (0, [.int sA, .long x_14, .int sM, .long x_15, .int 0]))] := hD
        refine lv_aload_n hx hb dX0_leftBoth_84 rfl (lv_at hl 1 rfl) ?_
        refine lv_aload_n hx hb dX0_leftBoth_85 rfl (lv_at hl 1 rfl) ?_
        refine va_get (D := D) (ci := 0) (v := .int sM) (C := RX0) (T := TX0) (N := 5) hx hb hts iX0_leftBoth_X0 hown hK hP 0 rfl rfl 2 (by decide) (hts (.fieldLink RX0 23 "TapeCalculator$Arithmetic" "mqSign" "I") (List.mem_of_getElem? (i := 6) rfl)) (fun _ h9 => h9) rfl dX0_leftBoth_86 ?_
        refine va_put (D := D) (ci := 0) (v := .int sM) (ty := .int) (C := RX0) (T := TX0) (N := 5) hx hb hts iX0_leftBoth_X0 tyX0 tyX0_ok nmX0 hown hK hP hD hS 0 rfl rfl 0 (by decide) (hts (.fieldLink RX0 9 "TapeCalculator$Arithmetic" "accSign" "I") (List.mem_of_getElem? (i := 7) rfl)) (fun _ h9 => h9) rfl (by decide +kernel) rfl rfl (Nat.le_of_ble_eq_true rfl) dX0_leftBoth_89 (fun H locs hP hD hS => ?_)
        have hP : va_P D vwCl [(aA, .inr (0, [.int sM, .long x_14, .int sM, .long x_15, .int 0]))] H := hP
        have hD : va_D A [(aA, .inr (0, [.int sM, .long x_14, .int sM, .long x_15, .int 0]))] := hD
        refine kVret (u := (sM, x_14, x_15, 0)) hx hb hr hlocks hS dX0_leftBoth_92 ?_ (hP.sub [0] rfl) (hD.sub [0] (by decide) rfl)
        exact trivial
    · have t_26_9 := c_26_9
      try simp only [kb_eq0, kb_ne0, lg_cmp_lt, lg_cmp_le, lg_cmp_gt, lg_cmp_ge, lg_cmp_eq] at t_26_9
      try simp only [Int32.lt_iff_toInt_lt, Int32.le_iff_toInt_le, ← Int32.toInt_inj, Int64.lt_iff_toInt_lt, Int64.le_iff_toInt_le, ← Int64.toInt_inj, Int32.toInt_toInt64, Int32.reduceToInt, Int64.reduceToInt] at t_26_9
      refine lv_iconst (v := 1) hx hb dX0_leftBoth_29 (by decide) ?_
      refine lv_goto (tgt := 34) hx hb dX0_leftBoth_30 (by decide) ?_
      refine va_put (D := D) (ci := 0) (v := .int 1) (ty := .boolean) (C := RX0) (T := TX0) (N := 5) hx hb hts iX0_leftBoth_X0 tyX0 tyX0_ok nmX0 hown hK hP hD hS 0 rfl rfl 4 (by decide) (hts (.fieldLink RX0 52 "TapeCalculator$Arithmetic" "over" "Z") (List.mem_of_getElem? (i := 1) rfl)) (fun _ h9 => h9) rfl (by decide +kernel) rfl rfl (Nat.le_of_ble_eq_true rfl) dX0_leftBoth_34 (fun H locs hP hD hS => ?_)
      have hP : va_P D vwCl [(aA, .inr (0, [.int sA, .long u_r_2.1, .int sM, .long zM, .int 1]))] H := hP
      have hD : va_D A [(aA, .inr (0, [.int sA, .long u_r_2.1, .int sM, .long zM, .int 1]))] := hD
      refine lv_aload_n hx hb dX0_leftBoth_37 rfl (lv_at hl 1 rfl) ?_
      refine lv_dup hx hb dX0_leftBoth_38 rfl ?_
      refine va_get (D := D) (ci := 0) (v := .long u_r_2.1) (C := RX0) (T := TX0) (N := 5) hx hb hts iX0_leftBoth_X0 hown hK hP 0 rfl rfl 1 (by decide) (hts (.fieldLink RX0 15 "TapeCalculator$Arithmetic" "accSize" "J") (List.mem_of_getElem? (i := 3) rfl)) (fun _ h9 => h9) rfl dX0_leftBoth_39 ?_
      refine lv_iload_n hx hb dX0_leftBoth_42 rfl (lv_at hl 0 rfl) ?_
      refine lv_if_ge (tgt := 56) hx hb dX0_leftBoth_43 (by decide) (fun c_43_15 => ?_) (fun c_43_15 => ?_)
      · have t_43_15 := c_43_15
        try simp only [kb_eq0, kb_ne0, lg_cmp_lt, lg_cmp_le, lg_cmp_gt, lg_cmp_ge, lg_cmp_eq] at t_43_15
        try simp only [Int32.lt_iff_toInt_lt, Int32.le_iff_toInt_le, ← Int32.toInt_inj, Int64.lt_iff_toInt_lt, Int64.le_iff_toInt_le, ← Int64.toInt_inj, Int32.toInt_toInt64, Int32.reduceToInt, Int64.reduceToInt] at t_43_15
        refine lv_aload_n hx hb dX0_leftBoth_56 rfl (lv_at hl 1 rfl) ?_
        refine va_get (D := D) (ci := 0) (v := .long zM) (C := RX0) (T := TX0) (N := 5) hx hb hts iX0_leftBoth_X0 hown hK hP 0 rfl rfl 3 (by decide) (hts (.fieldLink RX0 26 "TapeCalculator$Arithmetic" "mqSize" "J") (List.mem_of_getElem? (i := 2) rfl)) (fun _ h9 => h9) rfl dX0_leftBoth_57 ?_
        refine lv_iload_n hx hb dX0_leftBoth_60 rfl (lv_at hl 0 rfl) ?_
        refine lv_lshl hx hb dX0_leftBoth_61 rfl ?_
        refine lv_ldc2 (v := 137438953471) hx hb hown (hts (.constantLong RX0 56 (137438953471)) (List.mem_of_getElem? (i := 4) rfl)) dX0_leftBoth_62 ?_
        refine lv_land hx hb dX0_leftBoth_65 ?_
        refine lv_lor hx hb dX0_leftBoth_66 ?_
        refine lv_topl (fun x_17 ex_17 => ?_)
        refine va_put (D := D) (ci := 0) (v := .long x_17) (ty := .long) (C := RX0) (T := TX0) (N := 5) hx hb hts iX0_leftBoth_X0 tyX0 tyX0_ok nmX0 hown hK hP hD hS 0 rfl rfl 1 (by decide) (hts (.fieldLink RX0 15 "TapeCalculator$Arithmetic" "accSize" "J") (List.mem_of_getElem? (i := 3) rfl)) (fun _ h9 => h9) rfl (by decide +kernel) rfl rfl (Nat.le_of_ble_eq_true rfl) dX0_leftBoth_67 (fun H locs hP hD hS => ?_)
        have hP : va_P D vwCl [(aA, .inr (0, [.int sA, .long x_17, .int sM, .long zM, .int 1]))] H := hP
        have hD : va_D A [(aA, .inr (0, [.int sA, .long x_17, .int sM, .long zM, .int 1]))] := hD
        refine lv_aload_n hx hb dX0_leftBoth_70 rfl (lv_at hl 1 rfl) ?_
        refine lv_aload_n hx hb dX0_leftBoth_71 rfl (lv_at hl 1 rfl) ?_
        refine va_get (D := D) (ci := 0) (v := .long zM) (C := RX0) (T := TX0) (N := 5) hx hb hts iX0_leftBoth_X0 hown hK hP 0 rfl rfl 3 (by decide) (hts (.fieldLink RX0 26 "TapeCalculator$Arithmetic" "mqSize" "J") (List.mem_of_getElem? (i := 2) rfl)) (fun _ h9 => h9) rfl dX0_leftBoth_72 ?_
        refine lv_iload_n hx hb dX0_leftBoth_75 rfl (lv_at hl 2 rfl) ?_
        refine lv_lshl hx hb dX0_leftBoth_76 rfl ?_
        refine lv_ldc2 (v := 34359738367) hx hb hown (hts (.constantLong RX0 29 (34359738367)) (List.mem_of_getElem? (i := 5) rfl)) dX0_leftBoth_77 ?_
        refine lv_land hx hb dX0_leftBoth_80 ?_
        refine lv_topl (fun x_18 ex_18 => ?_)
        refine va_put (D := D) (ci := 0) (v := .long x_18) (ty := .long) (C := RX0) (T := TX0) (N := 5) hx hb hts iX0_leftBoth_X0 tyX0 tyX0_ok nmX0 hown hK hP hD hS 0 rfl rfl 3 (by decide) (hts (.fieldLink RX0 26 "TapeCalculator$Arithmetic" "mqSize" "J") (List.mem_of_getElem? (i := 2) rfl)) (fun _ h9 => h9) rfl (by decide +kernel) rfl rfl (Nat.le_of_ble_eq_true rfl) dX0_leftBoth_81 (fun H locs hP hD hS => ?_)
        have hP : va_P D vwCl [(aA, .inr (0, [.int sA, .long x_17, .int sM, .long x_18, .int 1]))] H := hP
        have hD : va_D A [(aA, .inr (0, [.int sA, .long x_17, .int sM, .long x_18, .int 1]))] := hD
        refine lv_aload_n hx hb dX0_leftBoth_84 rfl (lv_at hl 1 rfl) ?_
        refine lv_aload_n hx hb dX0_leftBoth_85 rfl (lv_at hl 1 rfl) ?_
        refine va_get (D := D) (ci := 0) (v := .int sM) (C := RX0) (T := TX0) (N := 5) hx hb hts iX0_leftBoth_X0 hown hK hP 0 rfl rfl 2 (by decide) (hts (.fieldLink RX0 23 "TapeCalculator$Arithmetic" "mqSign" "I") (List.mem_of_getElem? (i := 6) rfl)) (fun _ h9 => h9) rfl dX0_leftBoth_86 ?_
        refine va_put (D := D) (ci := 0) (v := .int sM) (ty := .int) (C := RX0) (T := TX0) (N := 5) hx hb hts iX0_leftBoth_X0 tyX0 tyX0_ok nmX0 hown hK hP hD hS 0 rfl rfl 0 (by decide) (hts (.fieldLink RX0 9 "TapeCalculator$Arithmetic" "accSign" "I") (List.mem_of_getElem? (i := 7) rfl)) (fun _ h9 => h9) rfl (by decide +kernel) rfl rfl (Nat.le_of_ble_eq_true rfl) dX0_leftBoth_89 (fun H locs hP hD hS => ?_)
        have hP : va_P D vwCl [(aA, .inr (0, [.int sM, .long x_17, .int sM, .long x_18, .int 1]))] H := hP
        have hD : va_D A [(aA, .inr (0, [.int sM, .long x_17, .int sM, .long x_18, .int 1]))] := hD
        refine kVret (u := (sM, x_17, x_18, 1)) hx hb hr hlocks hS dX0_leftBoth_92 ?_ (hP.sub [0] rfl) (hD.sub [0] (by decide) rfl)
        exact trivial
      · have t_43_15 := c_43_15
        try simp only [kb_eq0, kb_ne0, lg_cmp_lt, lg_cmp_le, lg_cmp_gt, lg_cmp_ge, lg_cmp_eq] at t_43_15
        try simp only [Int32.lt_iff_toInt_lt, Int32.le_iff_toInt_le, ← Int32.toInt_inj, Int64.lt_iff_toInt_lt, Int64.le_iff_toInt_le, ← Int64.toInt_inj, Int32.toInt_toInt64, Int32.reduceToInt, Int64.reduceToInt] at t_43_15
        refine lv_aload_n hx hb dX0_leftBoth_46 rfl (lv_at hl 1 rfl) ?_
        refine va_get (D := D) (ci := 0) (v := .long zM) (C := RX0) (T := TX0) (N := 5) hx hb hts iX0_leftBoth_X0 hown hK hP 0 rfl rfl 3 (by decide) (hts (.fieldLink RX0 26 "TapeCalculator$Arithmetic" "mqSize" "J") (List.mem_of_getElem? (i := 2) rfl)) (fun _ h9 => h9) rfl dX0_leftBoth_47 ?_
        refine lv_iload_n hx hb dX0_leftBoth_50 rfl (lv_at hl 0 rfl) ?_
        refine lv_ineg hx hb dX0_leftBoth_51 ?_
        refine lv_lshr hx hb dX0_leftBoth_52 rfl ?_
        refine lv_goto (tgt := 62) hx hb dX0_leftBoth_53 (by decide) ?_
        refine lv_ldc2 (v := 137438953471) hx hb hown (hts (.constantLong RX0 56 (137438953471)) (List.mem_of_getElem? (i := 4) rfl)) dX0_leftBoth_62 ?_
        refine lv_land hx hb dX0_leftBoth_65 ?_
        refine lv_lor hx hb dX0_leftBoth_66 ?_
        refine lv_topl (fun x_19 ex_19 => ?_)
        refine va_put (D := D) (ci := 0) (v := .long x_19) (ty := .long) (C := RX0) (T := TX0) (N := 5) hx hb hts iX0_leftBoth_X0 tyX0 tyX0_ok nmX0 hown hK hP hD hS 0 rfl rfl 1 (by decide) (hts (.fieldLink RX0 15 "TapeCalculator$Arithmetic" "accSize" "J") (List.mem_of_getElem? (i := 3) rfl)) (fun _ h9 => h9) rfl (by decide +kernel) rfl rfl (Nat.le_of_ble_eq_true rfl) dX0_leftBoth_67 (fun H locs hP hD hS => ?_)
        have hP : va_P D vwCl [(aA, .inr (0, [.int sA, .long x_19, .int sM, .long zM, .int 1]))] H := hP
        have hD : va_D A [(aA, .inr (0, [.int sA, .long x_19, .int sM, .long zM, .int 1]))] := hD
        refine lv_aload_n hx hb dX0_leftBoth_70 rfl (lv_at hl 1 rfl) ?_
        refine lv_aload_n hx hb dX0_leftBoth_71 rfl (lv_at hl 1 rfl) ?_
        refine va_get (D := D) (ci := 0) (v := .long zM) (C := RX0) (T := TX0) (N := 5) hx hb hts iX0_leftBoth_X0 hown hK hP 0 rfl rfl 3 (by decide) (hts (.fieldLink RX0 26 "TapeCalculator$Arithmetic" "mqSize" "J") (List.mem_of_getElem? (i := 2) rfl)) (fun _ h9 => h9) rfl dX0_leftBoth_72 ?_
        refine lv_iload_n hx hb dX0_leftBoth_75 rfl (lv_at hl 2 rfl) ?_
        refine lv_lshl hx hb dX0_leftBoth_76 rfl ?_
        refine lv_ldc2 (v := 34359738367) hx hb hown (hts (.constantLong RX0 29 (34359738367)) (List.mem_of_getElem? (i := 5) rfl)) dX0_leftBoth_77 ?_
        refine lv_land hx hb dX0_leftBoth_80 ?_
        refine lv_topl (fun x_20 ex_20 => ?_)
        refine va_put (D := D) (ci := 0) (v := .long x_20) (ty := .long) (C := RX0) (T := TX0) (N := 5) hx hb hts iX0_leftBoth_X0 tyX0 tyX0_ok nmX0 hown hK hP hD hS 0 rfl rfl 3 (by decide) (hts (.fieldLink RX0 26 "TapeCalculator$Arithmetic" "mqSize" "J") (List.mem_of_getElem? (i := 2) rfl)) (fun _ h9 => h9) rfl (by decide +kernel) rfl rfl (Nat.le_of_ble_eq_true rfl) dX0_leftBoth_81 (fun H locs hP hD hS => ?_)
        have hP : va_P D vwCl [(aA, .inr (0, [.int sA, .long x_19, .int sM, .long x_20, .int 1]))] H := hP
        have hD : va_D A [(aA, .inr (0, [.int sA, .long x_19, .int sM, .long x_20, .int 1]))] := hD
        refine lv_aload_n hx hb dX0_leftBoth_84 rfl (lv_at hl 1 rfl) ?_
        refine lv_aload_n hx hb dX0_leftBoth_85 rfl (lv_at hl 1 rfl) ?_
        refine va_get (D := D) (ci := 0) (v := .int sM) (C := RX0) (T := TX0) (N := 5) hx hb hts iX0_leftBoth_X0 hown hK hP 0 rfl rfl 2 (by decide) (hts (.fieldLink RX0 23 "TapeCalculator$Arithmetic" "mqSign" "I") (List.mem_of_getElem? (i := 6) rfl)) (fun _ h9 => h9) rfl dX0_leftBoth_86 ?_
        refine va_put (D := D) (ci := 0) (v := .int sM) (ty := .int) (C := RX0) (T := TX0) (N := 5) hx hb hts iX0_leftBoth_X0 tyX0 tyX0_ok nmX0 hown hK hP hD hS 0 rfl rfl 0 (by decide) (hts (.fieldLink RX0 9 "TapeCalculator$Arithmetic" "accSign" "I") (List.mem_of_getElem? (i := 7) rfl)) (fun _ h9 => h9) rfl (by decide +kernel) rfl rfl (Nat.le_of_ble_eq_true rfl) dX0_leftBoth_89 (fun H locs hP hD hS => ?_)
        have hP : va_P D vwCl [(aA, .inr (0, [.int sM, .long x_19, .int sM, .long x_20, .int 1]))] H := hP
        have hD : va_D A [(aA, .inr (0, [.int sM, .long x_19, .int sM, .long x_20, .int 1]))] := hD
        refine kVret (u := (sM, x_19, x_20, 1)) hx hb hr hlocks hS dX0_leftBoth_92 ?_ (hP.sub [0] rfl) (hD.sub [0] (by decide) rfl)
        exact trivial
set_option maxRecDepth 100000 in
theorem iX0_rightBoth_X0 : ∀ w ∈ wsX00, w ∈ wsX0_rightBoth := fun w h => (goodIn_r (big := wsX0_rightBoth) wsX00 [11, 12, 13, 14, 15] rfl (by decide +kernel) w h).1
set_option maxRecDepth 100000 in
set_option maxHeartbeats 4000000 in
theorem g_rightBoth (l : Launch) (D : va_G) (cI cL cB cZ cT : ClassId) (sz : Nat) (aA : Nat) (sA : Int32) (zA : Int64) (sM : Int32) (zM : Int64) (vO : Int32) (n : Int32) : kM (S := (Int64 × Int32 × Int64)) l yX0_rightBoth wsX0_rightBoth ({ frames := 1, cells := 0, slots := 0, locals := 21 }) D (kT cI cL cB cZ cT) [.ref aA, .int n] [(aA, .inr (0, [.int sA, .long zA, .int sM, .long zM, .int vO]))] sz eV (fun _ _ => True) (fun u => [(aA, .inr (0, [.int sA, .long u.1, .int u.2.1, .long u.2.2, .int vO]))]) 0 0 := by
  refine kStart (cc := cX0_rightBoth) (maxL := 5) (ret := none) (own := RX0) (by decide) rfl rfl (Nat.le_of_ble_eq_true rfl) ?_
  intro p e s m args below meth c A ls hx hb hr hml hown hts hlocks hnm hsz hA hG hP hD hS hl
  have hK := hG.1
  have hl : lv_has ls 5 [(0, .ref aA), (1, .int n)] := hl
  refine lv_iload_n hx hb dX0_rightBoth_0 rfl (lv_at hl 1 rfl) ?_
  refine lv_bipush (v := 35) hx hb dX0_rightBoth_1 (by decide) ?_
  refine lv_isub hx hb dX0_rightBoth_3 ?_
  refine lv_topi (fun x_1 ex_1 => ?_)
  refine lv_istore_n (lv' := [(2, .int x_1), (0, .ref aA), (1, .int n)]) hx hb dX0_rightBoth_4 rfl hl (by decide) rfl (fun ls hl => ?_)
  refine lv_iload_n hx hb dX0_rightBoth_5 rfl (lv_at hl 0 rfl) ?_
  refine lv_if_ge (tgt := 19) hx hb dX0_rightBoth_6 (by decide) (fun c_6_1 => ?_) (fun c_6_1 => ?_)
  · have t_6_1 := c_6_1
    try simp only [kb_eq0, kb_ne0, lg_cmp_lt, lg_cmp_le, lg_cmp_gt, lg_cmp_ge, lg_cmp_eq] at t_6_1
    try simp only [Int32.lt_iff_toInt_lt, Int32.le_iff_toInt_le, ← Int32.toInt_inj, Int64.lt_iff_toInt_lt, Int64.le_iff_toInt_le, ← Int64.toInt_inj, Int32.toInt_toInt64, Int32.reduceToInt, Int64.reduceToInt] at t_6_1
    refine lv_aload_n hx hb dX0_rightBoth_19 rfl (lv_at hl 1 rfl) ?_
    refine va_get (D := D) (ci := 0) (v := .long zA) (C := RX0) (T := TX0) (N := 5) hx hb hts iX0_rightBoth_X0 hown hK hP 0 rfl rfl 1 (by decide) (hts (.fieldLink RX0 15 "TapeCalculator$Arithmetic" "accSize" "J") (List.mem_of_getElem? (i := 1) rfl)) (fun _ h9 => h9) rfl dX0_rightBoth_20 ?_
    refine lv_iload_n hx hb dX0_rightBoth_23 rfl (lv_at hl 0 rfl) ?_
    refine lv_lshr hx hb dX0_rightBoth_24 rfl ?_
    refine lv_topl (fun x_3 ex_3 => ?_)
    refine lv_lstore_n (lv' := [(3, .long x_3), (2, .int x_1), (0, .ref aA), (1, .int n)]) hx hb dX0_rightBoth_25 rfl hl (by decide) rfl (fun ls hl => ?_)
    refine lv_aload_n hx hb dX0_rightBoth_26 rfl (lv_at hl 2 rfl) ?_
    refine lv_aload_n hx hb dX0_rightBoth_27 rfl (lv_at hl 2 rfl) ?_
    refine va_get (D := D) (ci := 0) (v := .long zM) (C := RX0) (T := TX0) (N := 5) hx hb hts iX0_rightBoth_X0 hown hK hP 0 rfl rfl 3 (by decide) (hts (.fieldLink RX0 26 "TapeCalculator$Arithmetic" "mqSize" "J") (List.mem_of_getElem? (i := 2) rfl)) (fun _ h9 => h9) rfl dX0_rightBoth_28 ?_
    refine lv_iload_n hx hb dX0_rightBoth_31 rfl (lv_at hl 3 rfl) ?_
    refine lv_lshr hx hb dX0_rightBoth_32 rfl ?_
    refine lv_lload_n hx hb dX0_rightBoth_33 rfl (lv_at hl 0 rfl) ?_
    refine lv_lor hx hb dX0_rightBoth_34 ?_
    refine lv_ldc2 (v := 34359738367) hx hb hown (hts (.constantLong RX0 29 (34359738367)) (List.mem_of_getElem? (i := 3) rfl)) dX0_rightBoth_35 ?_
    refine lv_land hx hb dX0_rightBoth_38 ?_
    refine lv_topl (fun x_4 ex_4 => ?_)
    refine va_put (D := D) (ci := 0) (v := .long x_4) (ty := .long) (C := RX0) (T := TX0) (N := 5) hx hb hts iX0_rightBoth_X0 tyX0 tyX0_ok nmX0 hown hK hP hD hS 0 rfl rfl 3 (by decide) (hts (.fieldLink RX0 26 "TapeCalculator$Arithmetic" "mqSize" "J") (List.mem_of_getElem? (i := 2) rfl)) (fun _ h9 => h9) rfl (by decide +kernel) rfl rfl (Nat.le_of_ble_eq_true rfl) dX0_rightBoth_39 (fun H locs hP hD hS => ?_)
    have hP : va_P D vwCl [(aA, .inr (0, [.int sA, .long zA, .int sM, .long x_4, .int vO]))] H := hP
    have hD : va_D A [(aA, .inr (0, [.int sA, .long zA, .int sM, .long x_4, .int vO]))] := hD
    refine lv_aload_n hx hb dX0_rightBoth_42 rfl (lv_at hl 2 rfl) ?_
    refine lv_iload_n hx hb dX0_rightBoth_43 rfl (lv_at hl 3 rfl) ?_
    refine kCallVd (wr := []) (va_runV (As := [.int n]) (rest := []) ⟨hx, hb, hml, hown, hts⟩ (g_right l D cI cL cB cZ cT _ aA sA zA sM x_4 vO n) (cwV 1 hts gX0_rightBoth_X0_right rfl rfl rfl (by decide +kernel) ⟨Nat.le_of_ble_eq_true rfl, Nat.le_of_ble_eq_true rfl⟩) (kPreV hG hP hD [0] rfl (by decide) 0 0 rfl rfl rfl) rfl rfl hl.1 rfl (lv_room (Nat.le_of_ble_eq_true rfl)) dX0_rightBoth_44 ⟨Nat.le_of_ble_eq_true rfl, Nat.le_of_ble_eq_true rfl⟩) hA hP hD hS [0] [] rfl rfl (by decide) (by decide) (fun _ u_r_5 H locs wr_5 hP hD hS => ?_)
    have hP : va_P D vwCl [(aA, .inr (0, [.int sA, .long u_r_5, .int sM, .long x_4, .int vO]))] H := hP
    have hD : va_D A [(aA, .inr (0, [.int sA, .long u_r_5, .int sM, .long x_4, .int vO]))] := hD
    try dsimp only at wr_5
    refine lv_aload_n hx hb dX0_rightBoth_47 rfl (lv_at hl 2 rfl) ?_
    refine lv_aload_n hx hb dX0_rightBoth_48 rfl (lv_at hl 2 rfl) ?_
    refine va_get (D := D) (ci := 0) (v := .int sA) (C := RX0) (T := TX0) (N := 5) hx hb hts iX0_rightBoth_X0 hown hK hP 0 rfl rfl 0 (by decide) (hts (.fieldLink RX0 9 "TapeCalculator$Arithmetic" "accSign" "I") (List.mem_of_getElem? (i := 4) rfl)) (fun _ h9 => h9) rfl dX0_rightBoth_49 ?_
    refine va_put (D := D) (ci := 0) (v := .int sA) (ty := .int) (C := RX0) (T := TX0) (N := 5) hx hb hts iX0_rightBoth_X0 tyX0 tyX0_ok nmX0 hown hK hP hD hS 0 rfl rfl 2 (by decide) (hts (.fieldLink RX0 23 "TapeCalculator$Arithmetic" "mqSign" "I") (List.mem_of_getElem? (i := 5) rfl)) (fun _ h9 => h9) rfl (by decide +kernel) rfl rfl (Nat.le_of_ble_eq_true rfl) dX0_rightBoth_52 (fun H locs hP hD hS => ?_)
    have hP : va_P D vwCl [(aA, .inr (0, [.int sA, .long u_r_5, .int sA, .long x_4, .int vO]))] H := hP
    have hD : va_D A [(aA, .inr (0, [.int sA, .long u_r_5, .int sA, .long x_4, .int vO]))] := hD
    refine kVret (u := (u_r_5, sA, x_4)) hx hb hr hlocks hS dX0_rightBoth_55 ?_ (hP.sub [0] rfl) (hD.sub [0] (by decide) rfl)
    exact trivial
  · have t_6_1 := c_6_1
    try simp only [kb_eq0, kb_ne0, lg_cmp_lt, lg_cmp_le, lg_cmp_gt, lg_cmp_ge, lg_cmp_eq] at t_6_1
    try simp only [Int32.lt_iff_toInt_lt, Int32.le_iff_toInt_le, ← Int32.toInt_inj, Int64.lt_iff_toInt_lt, Int64.le_iff_toInt_le, ← Int64.toInt_inj, Int32.toInt_toInt64, Int32.reduceToInt, Int64.reduceToInt] at t_6_1
    refine lv_aload_n hx hb dX0_rightBoth_9 rfl (lv_at hl 1 rfl) ?_
    refine va_get (D := D) (ci := 0) (v := .long zA) (C := RX0) (T := TX0) (N := 5) hx hb hts iX0_rightBoth_X0 hown hK hP 0 rfl rfl 1 (by decide) (hts (.fieldLink RX0 15 "TapeCalculator$Arithmetic" "accSize" "J") (List.mem_of_getElem? (i := 1) rfl)) (fun _ h9 => h9) rfl dX0_rightBoth_10 ?_
    refine lv_iload_n hx hb dX0_rightBoth_13 rfl (lv_at hl 0 rfl) ?_
    refine lv_ineg hx hb dX0_rightBoth_14 ?_
    refine lv_lshl hx hb dX0_rightBoth_15 rfl ?_
    refine lv_goto (tgt := 25) hx hb dX0_rightBoth_16 (by decide) ?_
    refine lv_topl (fun x_6 ex_6 => ?_)
    refine lv_lstore_n (lv' := [(3, .long x_6), (2, .int x_1), (0, .ref aA), (1, .int n)]) hx hb dX0_rightBoth_25 rfl hl (by decide) rfl (fun ls hl => ?_)
    refine lv_aload_n hx hb dX0_rightBoth_26 rfl (lv_at hl 2 rfl) ?_
    refine lv_aload_n hx hb dX0_rightBoth_27 rfl (lv_at hl 2 rfl) ?_
    refine va_get (D := D) (ci := 0) (v := .long zM) (C := RX0) (T := TX0) (N := 5) hx hb hts iX0_rightBoth_X0 hown hK hP 0 rfl rfl 3 (by decide) (hts (.fieldLink RX0 26 "TapeCalculator$Arithmetic" "mqSize" "J") (List.mem_of_getElem? (i := 2) rfl)) (fun _ h9 => h9) rfl dX0_rightBoth_28 ?_
    refine lv_iload_n hx hb dX0_rightBoth_31 rfl (lv_at hl 3 rfl) ?_
    refine lv_lshr hx hb dX0_rightBoth_32 rfl ?_
    refine lv_lload_n hx hb dX0_rightBoth_33 rfl (lv_at hl 0 rfl) ?_
    refine lv_lor hx hb dX0_rightBoth_34 ?_
    refine lv_ldc2 (v := 34359738367) hx hb hown (hts (.constantLong RX0 29 (34359738367)) (List.mem_of_getElem? (i := 3) rfl)) dX0_rightBoth_35 ?_
    refine lv_land hx hb dX0_rightBoth_38 ?_
    refine lv_topl (fun x_7 ex_7 => ?_)
    refine va_put (D := D) (ci := 0) (v := .long x_7) (ty := .long) (C := RX0) (T := TX0) (N := 5) hx hb hts iX0_rightBoth_X0 tyX0 tyX0_ok nmX0 hown hK hP hD hS 0 rfl rfl 3 (by decide) (hts (.fieldLink RX0 26 "TapeCalculator$Arithmetic" "mqSize" "J") (List.mem_of_getElem? (i := 2) rfl)) (fun _ h9 => h9) rfl (by decide +kernel) rfl rfl (Nat.le_of_ble_eq_true rfl) dX0_rightBoth_39 (fun H locs hP hD hS => ?_)
    have hP : va_P D vwCl [(aA, .inr (0, [.int sA, .long zA, .int sM, .long x_7, .int vO]))] H := hP
    have hD : va_D A [(aA, .inr (0, [.int sA, .long zA, .int sM, .long x_7, .int vO]))] := hD
    refine lv_aload_n hx hb dX0_rightBoth_42 rfl (lv_at hl 2 rfl) ?_
    refine lv_iload_n hx hb dX0_rightBoth_43 rfl (lv_at hl 3 rfl) ?_
    refine kCallVd (wr := []) (va_runV (As := [.int n]) (rest := []) ⟨hx, hb, hml, hown, hts⟩ (g_right l D cI cL cB cZ cT _ aA sA zA sM x_7 vO n) (cwV 1 hts gX0_rightBoth_X0_right rfl rfl rfl (by decide +kernel) ⟨Nat.le_of_ble_eq_true rfl, Nat.le_of_ble_eq_true rfl⟩) (kPreV hG hP hD [0] rfl (by decide) 0 0 rfl rfl rfl) rfl rfl hl.1 rfl (lv_room (Nat.le_of_ble_eq_true rfl)) dX0_rightBoth_44 ⟨Nat.le_of_ble_eq_true rfl, Nat.le_of_ble_eq_true rfl⟩) hA hP hD hS [0] [] rfl rfl (by decide) (by decide) (fun _ u_r_8 H locs wr_8 hP hD hS => ?_)
    have hP : va_P D vwCl [(aA, .inr (0, [.int sA, .long u_r_8, .int sM, .long x_7, .int vO]))] H := hP
    have hD : va_D A [(aA, .inr (0, [.int sA, .long u_r_8, .int sM, .long x_7, .int vO]))] := hD
    try dsimp only at wr_8
    refine lv_aload_n hx hb dX0_rightBoth_47 rfl (lv_at hl 2 rfl) ?_
    refine lv_aload_n hx hb dX0_rightBoth_48 rfl (lv_at hl 2 rfl) ?_
    refine va_get (D := D) (ci := 0) (v := .int sA) (C := RX0) (T := TX0) (N := 5) hx hb hts iX0_rightBoth_X0 hown hK hP 0 rfl rfl 0 (by decide) (hts (.fieldLink RX0 9 "TapeCalculator$Arithmetic" "accSign" "I") (List.mem_of_getElem? (i := 4) rfl)) (fun _ h9 => h9) rfl dX0_rightBoth_49 ?_
    refine va_put (D := D) (ci := 0) (v := .int sA) (ty := .int) (C := RX0) (T := TX0) (N := 5) hx hb hts iX0_rightBoth_X0 tyX0 tyX0_ok nmX0 hown hK hP hD hS 0 rfl rfl 2 (by decide) (hts (.fieldLink RX0 23 "TapeCalculator$Arithmetic" "mqSign" "I") (List.mem_of_getElem? (i := 5) rfl)) (fun _ h9 => h9) rfl (by decide +kernel) rfl rfl (Nat.le_of_ble_eq_true rfl) dX0_rightBoth_52 (fun H locs hP hD hS => ?_)
    have hP : va_P D vwCl [(aA, .inr (0, [.int sA, .long u_r_8, .int sA, .long x_7, .int vO]))] H := hP
    have hD : va_D A [(aA, .inr (0, [.int sA, .long u_r_8, .int sA, .long x_7, .int vO]))] := hD
    refine kVret (u := (u_r_8, sA, x_7)) hx hb hr hlocks hS dX0_rightBoth_55 ?_ (hP.sub [0] rfl) (hD.sub [0] (by decide) rfl)
    exact trivial
set_option maxRecDepth 100000 in
theorem iX0_calculate_X0 : ∀ w ∈ wsX00, w ∈ wsX0_calculate := fun w h => (goodIn_r (big := wsX0_calculate) wsX00 [35, 36, 37, 38, 39] rfl (by decide +kernel) w h).1
set_option maxRecDepth 100000 in
set_option maxHeartbeats 4000000 in
theorem g_calculate (l : Launch) (D : va_G) (cI cL cB cZ cT : ClassId) (sz : Nat) (aA : Nat) (sA : Int32) (zA : Int64) (sM : Int32) (zM : Int64) (vO : Int32) (a : Int32) (v : Int64) : kM (S := (Int32 × Int64 × Int32 × Int64 × Int32)) l yX0_calculate wsX0_calculate ({ frames := 2, cells := 0, slots := 0, locals := 45 }) D (kT cI cL cB cZ cT) [.ref aA, .int a, .long v] [(aA, .inr (0, [.int sA, .long zA, .int sM, .long zM, .int vO]))] sz eI (fun _ _ => True) (fun u => [(aA, .inr (0, [.int u.1, .long u.2.1, .int u.2.2.1, .long u.2.2.2.1, .int u.2.2.2.2]))]) 0 0 := by
  refine kStart (cc := cX0_calculate) (maxL := 7) (ret := (some .int)) (own := RX0) (by decide) rfl rfl (Nat.le_of_ble_eq_true rfl) ?_
  intro p e s m args below meth c A ls hx hb hr hml hown hts hlocks hnm hsz hA hG hP hD hS hl
  have hK := hG.1
  have hl : lv_has ls 7 [(0, .ref aA), (1, .int a), (2, .long v)] := hl
  refine lv_lload_n hx hb dX0_calculate_0 rfl (lv_at hl 2 rfl) ?_
  refine lv_bipush (v := 35) hx hb dX0_calculate_1 (by decide) ?_
  refine lv_lshr hx hb dX0_calculate_3 rfl ?_
  refine lv_l2i hx hb dX0_calculate_4 rfl ?_
  refine lv_iconst (v := 1) hx hb dX0_calculate_5 (by decide) ?_
  refine lv_iand hx hb dX0_calculate_6 ?_
  refine lv_topi (fun x_1 ex_1 => ?_)
  refine lv_istore (lv' := [(4, .int x_1), (0, .ref aA), (1, .int a), (2, .long v)]) hx hb dX0_calculate_7 hl (by decide) rfl (fun ls hl => ?_)
  refine lv_lload_n hx hb dX0_calculate_9 rfl (lv_at hl 3 rfl) ?_
  refine lv_ldc2 (v := 34359738367) hx hb hown (hts (.constantLong RX0 29 (34359738367)) (List.mem_of_getElem? (i := 1) rfl)) dX0_calculate_10 ?_
  refine lv_land hx hb dX0_calculate_13 ?_
  refine lv_topl (fun x_2 ex_2 => ?_)
  refine lv_lstore (lv' := [(5, .long x_2), (4, .int x_1), (0, .ref aA), (1, .int a), (2, .long v)]) hx hb dX0_calculate_14 hl (by decide) rfl (fun ls hl => ?_)
  refine lv_iload_n hx hb dX0_calculate_16 rfl (lv_at hl 3 rfl) ?_
  rcases ksw_5_18 a with hsw | rfl | rfl | rfl | rfl | rfl | rfl | rfl | rfl | rfl | rfl | rfl | rfl | rfl | rfl
  · refine lv_tableOut (tgt := 214) hx hb dX0_calculate_17 hsw (by decide) ?_
    refine lv_iconst (v := 0) hx hb dX0_calculate_214 (by decide) ?_
    refine kIret (u := (sA, zA, sM, zM, vO)) hx hb hr rfl hlocks hS dX0_calculate_215 ?_ (hP.sub [0] rfl) (hD.sub [0] (by decide) rfl)
    exact trivial
  · refine lv_tableIn (tgt := 99) (off := 82) hx hb dX0_calculate_17 (by decide) (by decide) (by decide) (by decide) ?_
    refine lv_aload_n hx hb dX0_calculate_99 rfl (lv_at hl 2 rfl) ?_
    refine lv_iconst (v := 1) hx hb dX0_calculate_100 (by decide) ?_
    refine lv_iload hx hb dX0_calculate_101 (lv_at hl 1 rfl) ?_
    refine lv_isub hx hb dX0_calculate_103 ?_
    refine lv_lload hx hb dX0_calculate_104 (lv_at hl 0 rfl) ?_
    refine kCallVd (wr := []) (va_runV (As := [.int (1 - x_1), .long x_2]) (rest := []) ⟨hx, hb, hml, hown, hts⟩ (g_addSigned l D cI cL cB cZ cT _ aA sA zA sM zM vO (1 - x_1) x_2) (cwV 2 hts gX0_calculate_X0_addSigned rfl rfl rfl (by decide +kernel) ⟨Nat.le_of_ble_eq_true rfl, Nat.le_of_ble_eq_true rfl⟩) (kPreV hG hP hD [0] rfl (by decide) 0 0 rfl rfl rfl) rfl rfl hl.1 rfl (lv_room (Nat.le_of_ble_eq_true rfl)) dX0_calculate_106 ⟨Nat.le_of_ble_eq_true rfl, Nat.le_of_ble_eq_true rfl⟩) hA hP hD hS [0] [] rfl rfl (by decide) (by decide) (fun _ u_r_3 H locs wr_3 hP hD hS => ?_)
    have hP : va_P D vwCl [(aA, .inr (0, [.int u_r_3.1, .long u_r_3.2.1, .int sM, .long zM, .int u_r_3.2.2]))] H := hP
    have hD : va_D A [(aA, .inr (0, [.int u_r_3.1, .long u_r_3.2.1, .int sM, .long zM, .int u_r_3.2.2]))] := hD
    try dsimp only at wr_3
    refine lv_goto (tgt := 214) hx hb dX0_calculate_109 (by decide) ?_
    refine lv_iconst (v := 0) hx hb dX0_calculate_214 (by decide) ?_
    refine kIret (u := (u_r_3.1, u_r_3.2.1, sM, zM, u_r_3.2.2)) hx hb hr rfl hlocks hS dX0_calculate_215 ?_ (hP.sub [0] rfl) (hD.sub [0] (by decide) rfl)
    exact trivial
  · refine lv_tableIn (tgt := 143) (off := 126) hx hb dX0_calculate_17 (by decide) (by decide) (by decide) (by decide) ?_
    refine lv_aload_n hx hb dX0_calculate_143 rfl (lv_at hl 2 rfl) ?_
    refine lv_iconst (v := 1) hx hb dX0_calculate_144 (by decide) ?_
    refine lv_iload hx hb dX0_calculate_145 (lv_at hl 1 rfl) ?_
    refine lv_isub hx hb dX0_calculate_147 ?_
    refine lv_lload hx hb dX0_calculate_148 (lv_at hl 0 rfl) ?_
    refine kCallVd (wr := []) (va_runV (As := [.int (1 - x_1), .long x_2]) (rest := []) ⟨hx, hb, hml, hown, hts⟩ (g_loadAcc l D cI cL cB cZ cT _ aA sA zA sM zM vO (1 - x_1) x_2) (cwV 2 hts gX0_calculate_X0_loadAcc rfl rfl rfl (by decide +kernel) ⟨Nat.le_of_ble_eq_true rfl, Nat.le_of_ble_eq_true rfl⟩) (kPreV hG hP hD [0] rfl (by decide) 0 0 rfl rfl rfl) rfl rfl hl.1 rfl (lv_room (Nat.le_of_ble_eq_true rfl)) dX0_calculate_150 ⟨Nat.le_of_ble_eq_true rfl, Nat.le_of_ble_eq_true rfl⟩) hA hP hD hS [0] [] rfl rfl (by decide) (by decide) (fun _ u_r_4 H locs wr_4 hP hD hS => ?_)
    have hP : va_P D vwCl [(aA, .inr (0, [.int u_r_4.1, .long u_r_4.2, .int sM, .long zM, .int vO]))] H := hP
    have hD : va_D A [(aA, .inr (0, [.int u_r_4.1, .long u_r_4.2, .int sM, .long zM, .int vO]))] := hD
    try dsimp only at wr_4
    refine lv_goto (tgt := 214) hx hb dX0_calculate_153 (by decide) ?_
    refine lv_iconst (v := 0) hx hb dX0_calculate_214 (by decide) ?_
    refine kIret (u := (u_r_4.1, u_r_4.2, sM, zM, vO)) hx hb hr rfl hlocks hS dX0_calculate_215 ?_ (hP.sub [0] rfl) (hD.sub [0] (by decide) rfl)
    exact trivial
  · refine lv_tableIn (tgt := 122) (off := 105) hx hb dX0_calculate_17 (by decide) (by decide) (by decide) (by decide) ?_
    refine lv_aload_n hx hb dX0_calculate_122 rfl (lv_at hl 2 rfl) ?_
    refine lv_iconst (v := 1) hx hb dX0_calculate_123 (by decide) ?_
    refine lv_lload hx hb dX0_calculate_124 (lv_at hl 0 rfl) ?_
    refine kCallVd (wr := []) (va_runV (As := [.int 1, .long x_2]) (rest := []) ⟨hx, hb, hml, hown, hts⟩ (g_addSigned l D cI cL cB cZ cT _ aA sA zA sM zM vO 1 x_2) (cwV 2 hts gX0_calculate_X0_addSigned rfl rfl rfl (by decide +kernel) ⟨Nat.le_of_ble_eq_true rfl, Nat.le_of_ble_eq_true rfl⟩) (kPreV hG hP hD [0] rfl (by decide) 0 0 rfl rfl rfl) rfl rfl hl.1 rfl (lv_room (Nat.le_of_ble_eq_true rfl)) dX0_calculate_126 ⟨Nat.le_of_ble_eq_true rfl, Nat.le_of_ble_eq_true rfl⟩) hA hP hD hS [0] [] rfl rfl (by decide) (by decide) (fun _ u_r_5 H locs wr_5 hP hD hS => ?_)
    have hP : va_P D vwCl [(aA, .inr (0, [.int u_r_5.1, .long u_r_5.2.1, .int sM, .long zM, .int u_r_5.2.2]))] H := hP
    have hD : va_D A [(aA, .inr (0, [.int u_r_5.1, .long u_r_5.2.1, .int sM, .long zM, .int u_r_5.2.2]))] := hD
    try dsimp only at wr_5
    refine lv_goto (tgt := 214) hx hb dX0_calculate_129 (by decide) ?_
    refine lv_iconst (v := 0) hx hb dX0_calculate_214 (by decide) ?_
    refine kIret (u := (u_r_5.1, u_r_5.2.1, sM, zM, u_r_5.2.2)) hx hb hr rfl hlocks hS dX0_calculate_215 ?_ (hP.sub [0] rfl) (hD.sub [0] (by decide) rfl)
    exact trivial
  · refine lv_tableIn (tgt := 214) (off := 197) hx hb dX0_calculate_17 (by decide) (by decide) (by decide) (by decide) ?_
    refine lv_iconst (v := 0) hx hb dX0_calculate_214 (by decide) ?_
    refine kIret (u := (sA, zA, sM, zM, vO)) hx hb hr rfl hlocks hS dX0_calculate_215 ?_ (hP.sub [0] rfl) (hD.sub [0] (by decide) rfl)
    exact trivial
  · refine lv_tableIn (tgt := 88) (off := 71) hx hb dX0_calculate_17 (by decide) (by decide) (by decide) (by decide) ?_
    refine lv_aload_n hx hb dX0_calculate_88 rfl (lv_at hl 2 rfl) ?_
    refine lv_iload hx hb dX0_calculate_89 (lv_at hl 1 rfl) ?_
    refine lv_lload hx hb dX0_calculate_91 (lv_at hl 0 rfl) ?_
    refine kCallVd (wr := []) (va_runV (As := [.int x_1, .long x_2]) (rest := []) ⟨hx, hb, hml, hown, hts⟩ (g_addSigned l D cI cL cB cZ cT _ aA sA zA sM zM vO x_1 x_2) (cwV 2 hts gX0_calculate_X0_addSigned rfl rfl rfl (by decide +kernel) ⟨Nat.le_of_ble_eq_true rfl, Nat.le_of_ble_eq_true rfl⟩) (kPreV hG hP hD [0] rfl (by decide) 0 0 rfl rfl rfl) rfl rfl hl.1 rfl (lv_room (Nat.le_of_ble_eq_true rfl)) dX0_calculate_93 ⟨Nat.le_of_ble_eq_true rfl, Nat.le_of_ble_eq_true rfl⟩) hA hP hD hS [0] [] rfl rfl (by decide) (by decide) (fun _ u_r_6 H locs wr_6 hP hD hS => ?_)
    have hP : va_P D vwCl [(aA, .inr (0, [.int u_r_6.1, .long u_r_6.2.1, .int sM, .long zM, .int u_r_6.2.2]))] H := hP
    have hD : va_D A [(aA, .inr (0, [.int u_r_6.1, .long u_r_6.2.1, .int sM, .long zM, .int u_r_6.2.2]))] := hD
    try dsimp only at wr_6
    refine lv_goto (tgt := 214) hx hb dX0_calculate_96 (by decide) ?_
    refine lv_iconst (v := 0) hx hb dX0_calculate_214 (by decide) ?_
    refine kIret (u := (u_r_6.1, u_r_6.2.1, sM, zM, u_r_6.2.2)) hx hb hr rfl hlocks hS dX0_calculate_215 ?_ (hP.sub [0] rfl) (hD.sub [0] (by decide) rfl)
    exact trivial
  · refine lv_tableIn (tgt := 132) (off := 115) hx hb dX0_calculate_17 (by decide) (by decide) (by decide) (by decide) ?_
    refine lv_aload_n hx hb dX0_calculate_132 rfl (lv_at hl 2 rfl) ?_
    refine lv_iload hx hb dX0_calculate_133 (lv_at hl 1 rfl) ?_
    refine lv_lload hx hb dX0_calculate_135 (lv_at hl 0 rfl) ?_
    refine kCallVd (wr := []) (va_runV (As := [.int x_1, .long x_2]) (rest := []) ⟨hx, hb, hml, hown, hts⟩ (g_loadAcc l D cI cL cB cZ cT _ aA sA zA sM zM vO x_1 x_2) (cwV 2 hts gX0_calculate_X0_loadAcc rfl rfl rfl (by decide +kernel) ⟨Nat.le_of_ble_eq_true rfl, Nat.le_of_ble_eq_true rfl⟩) (kPreV hG hP hD [0] rfl (by decide) 0 0 rfl rfl rfl) rfl rfl hl.1 rfl (lv_room (Nat.le_of_ble_eq_true rfl)) dX0_calculate_137 ⟨Nat.le_of_ble_eq_true rfl, Nat.le_of_ble_eq_true rfl⟩) hA hP hD hS [0] [] rfl rfl (by decide) (by decide) (fun _ u_r_7 H locs wr_7 hP hD hS => ?_)
    have hP : va_P D vwCl [(aA, .inr (0, [.int u_r_7.1, .long u_r_7.2, .int sM, .long zM, .int vO]))] H := hP
    have hD : va_D A [(aA, .inr (0, [.int u_r_7.1, .long u_r_7.2, .int sM, .long zM, .int vO]))] := hD
    try dsimp only at wr_7
    refine lv_goto (tgt := 214) hx hb dX0_calculate_140 (by decide) ?_
    refine lv_iconst (v := 0) hx hb dX0_calculate_214 (by decide) ?_
    refine kIret (u := (u_r_7.1, u_r_7.2, sM, zM, vO)) hx hb hr rfl hlocks hS dX0_calculate_215 ?_ (hP.sub [0] rfl) (hD.sub [0] (by decide) rfl)
    exact trivial
  · refine lv_tableIn (tgt := 112) (off := 95) hx hb dX0_calculate_17 (by decide) (by decide) (by decide) (by decide) ?_
    refine lv_aload_n hx hb dX0_calculate_112 rfl (lv_at hl 2 rfl) ?_
    refine lv_iconst (v := 0) hx hb dX0_calculate_113 (by decide) ?_
    refine lv_lload hx hb dX0_calculate_114 (lv_at hl 0 rfl) ?_
    refine kCallVd (wr := []) (va_runV (As := [.int 0, .long x_2]) (rest := []) ⟨hx, hb, hml, hown, hts⟩ (g_addSigned l D cI cL cB cZ cT _ aA sA zA sM zM vO 0 x_2) (cwV 2 hts gX0_calculate_X0_addSigned rfl rfl rfl (by decide +kernel) ⟨Nat.le_of_ble_eq_true rfl, Nat.le_of_ble_eq_true rfl⟩) (kPreV hG hP hD [0] rfl (by decide) 0 0 rfl rfl rfl) rfl rfl hl.1 rfl (lv_room (Nat.le_of_ble_eq_true rfl)) dX0_calculate_116 ⟨Nat.le_of_ble_eq_true rfl, Nat.le_of_ble_eq_true rfl⟩) hA hP hD hS [0] [] rfl rfl (by decide) (by decide) (fun _ u_r_8 H locs wr_8 hP hD hS => ?_)
    have hP : va_P D vwCl [(aA, .inr (0, [.int u_r_8.1, .long u_r_8.2.1, .int sM, .long zM, .int u_r_8.2.2]))] H := hP
    have hD : va_D A [(aA, .inr (0, [.int u_r_8.1, .long u_r_8.2.1, .int sM, .long zM, .int u_r_8.2.2]))] := hD
    try dsimp only at wr_8
    refine lv_goto (tgt := 214) hx hb dX0_calculate_119 (by decide) ?_
    refine lv_iconst (v := 0) hx hb dX0_calculate_214 (by decide) ?_
    refine kIret (u := (u_r_8.1, u_r_8.2.1, sM, zM, u_r_8.2.2)) hx hb hr rfl hlocks hS dX0_calculate_215 ?_ (hP.sub [0] rfl) (hD.sub [0] (by decide) rfl)
    exact trivial
  · refine lv_tableIn (tgt := 214) (off := 197) hx hb dX0_calculate_17 (by decide) (by decide) (by decide) (by decide) ?_
    refine lv_iconst (v := 0) hx hb dX0_calculate_214 (by decide) ?_
    refine kIret (u := (sA, zA, sM, zM, vO)) hx hb hr rfl hlocks hS dX0_calculate_215 ?_ (hP.sub [0] rfl) (hD.sub [0] (by decide) rfl)
    exact trivial
  · refine lv_tableIn (tgt := 214) (off := 197) hx hb dX0_calculate_17 (by decide) (by decide) (by decide) (by decide) ?_
    refine lv_iconst (v := 0) hx hb dX0_calculate_214 (by decide) ?_
    refine kIret (u := (sA, zA, sM, zM, vO)) hx hb hr rfl hlocks hS dX0_calculate_215 ?_ (hP.sub [0] rfl) (hD.sub [0] (by decide) rfl)
    exact trivial
  · refine lv_tableIn (tgt := 214) (off := 197) hx hb dX0_calculate_17 (by decide) (by decide) (by decide) (by decide) ?_
    refine lv_iconst (v := 0) hx hb dX0_calculate_214 (by decide) ?_
    refine kIret (u := (sA, zA, sM, zM, vO)) hx hb hr rfl hlocks hS dX0_calculate_215 ?_ (hP.sub [0] rfl) (hD.sub [0] (by decide) rfl)
    exact trivial
  · refine lv_tableIn (tgt := 156) (off := 139) hx hb dX0_calculate_17 (by decide) (by decide) (by decide) (by decide) ?_
    refine lv_aload_n hx hb dX0_calculate_156 rfl (lv_at hl 2 rfl) ?_
    refine lv_iload hx hb dX0_calculate_157 (lv_at hl 1 rfl) ?_
    refine va_put (D := D) (ci := 0) (v := .int x_1) (ty := .int) (C := RX0) (T := TX0) (N := 5) hx hb hts iX0_calculate_X0 tyX0 tyX0_ok nmX0 hown hK hP hD hS 0 rfl rfl 2 (by decide) (hts (.fieldLink RX0 23 "TapeCalculator$Arithmetic" "mqSign" "I") (List.mem_of_getElem? (i := 2) rfl)) (fun _ h9 => h9) rfl (by decide +kernel) rfl rfl (Nat.le_of_ble_eq_true rfl) dX0_calculate_159 (fun H locs hP hD hS => ?_)
    have hP : va_P D vwCl [(aA, .inr (0, [.int sA, .long zA, .int x_1, .long zM, .int vO]))] H := hP
    have hD : va_D A [(aA, .inr (0, [.int sA, .long zA, .int x_1, .long zM, .int vO]))] := hD
    refine lv_aload_n hx hb dX0_calculate_162 rfl (lv_at hl 2 rfl) ?_
    refine lv_lload hx hb dX0_calculate_163 (lv_at hl 0 rfl) ?_
    refine va_put (D := D) (ci := 0) (v := .long x_2) (ty := .long) (C := RX0) (T := TX0) (N := 5) hx hb hts iX0_calculate_X0 tyX0 tyX0_ok nmX0 hown hK hP hD hS 0 rfl rfl 3 (by decide) (hts (.fieldLink RX0 26 "TapeCalculator$Arithmetic" "mqSize" "J") (List.mem_of_getElem? (i := 3) rfl)) (fun _ h9 => h9) rfl (by decide +kernel) rfl rfl (Nat.le_of_ble_eq_true rfl) dX0_calculate_165 (fun H locs hP hD hS => ?_)
    have hP : va_P D vwCl [(aA, .inr (0, [.int sA, .long zA, .int x_1, .long x_2, .int vO]))] H := hP
    have hD : va_D A [(aA, .inr (0, [.int sA, .long zA, .int x_1, .long x_2, .int vO]))] := hD
    refine lv_goto (tgt := 214) hx hb dX0_calculate_168 (by decide) ?_
    refine lv_iconst (v := 0) hx hb dX0_calculate_214 (by decide) ?_
    refine kIret (u := (sA, zA, x_1, x_2, vO)) hx hb hr rfl hlocks hS dX0_calculate_215 ?_ (hP.sub [0] rfl) (hD.sub [0] (by decide) rfl)
    exact trivial
  · refine lv_tableIn (tgt := 171) (off := 154) hx hb dX0_calculate_17 (by decide) (by decide) (by decide) (by decide) ?_
    refine lv_aload_n hx hb dX0_calculate_171 rfl (lv_at hl 2 rfl) ?_
    refine lv_iload hx hb dX0_calculate_172 (lv_at hl 1 rfl) ?_
    refine lv_lload hx hb dX0_calculate_174 (lv_at hl 0 rfl) ?_
    refine kCallVd (wr := []) (va_runV (As := [.int x_1, .long x_2]) (rest := []) ⟨hx, hb, hml, hown, hts⟩ (g_times l D cI cL cB cZ cT _ aA sA zA sM zM vO x_1 x_2) (cwV 2 hts gX0_calculate_X0_times rfl rfl rfl (by decide +kernel) ⟨Nat.le_of_ble_eq_true rfl, Nat.le_of_ble_eq_true rfl⟩) (kPreV hG hP hD [0] rfl (by decide) 0 0 rfl rfl rfl) rfl rfl hl.1 rfl (lv_room (Nat.le_of_ble_eq_true rfl)) dX0_calculate_176 ⟨Nat.le_of_ble_eq_true rfl, Nat.le_of_ble_eq_true rfl⟩) hA hP hD hS [0] [] rfl rfl (by decide) (by decide) (fun _ u_r_9 H locs wr_9 hP hD hS => ?_)
    have hP : va_P D vwCl [(aA, .inr (0, [.int u_r_9.1, .long u_r_9.2.1, .int u_r_9.2.2.1, .long u_r_9.2.2.2, .int vO]))] H := hP
    have hD : va_D A [(aA, .inr (0, [.int u_r_9.1, .long u_r_9.2.1, .int u_r_9.2.2.1, .long u_r_9.2.2.2, .int vO]))] := hD
    try dsimp only at wr_9
    refine lv_goto (tgt := 214) hx hb dX0_calculate_179 (by decide) ?_
    refine lv_iconst (v := 0) hx hb dX0_calculate_214 (by decide) ?_
    refine kIret (u := (u_r_9.1, u_r_9.2.1, u_r_9.2.2.1, u_r_9.2.2.2, vO)) hx hb hr rfl hlocks hS dX0_calculate_215 ?_ (hP.sub [0] rfl) (hD.sub [0] (by decide) rfl)
    exact trivial
  · refine lv_tableIn (tgt := 182) (off := 165) hx hb dX0_calculate_17 (by decide) (by decide) (by decide) (by decide) ?_
    refine lv_aload_n hx hb dX0_calculate_182 rfl (lv_at hl 2 rfl) ?_
    refine lv_iload hx hb dX0_calculate_183 (lv_at hl 1 rfl) ?_
    refine lv_lload hx hb dX0_calculate_185 (lv_at hl 0 rfl) ?_
    refine kCallVd (wr := []) (va_runV (As := [.int x_1, .long x_2]) (rest := []) ⟨hx, hb, hml, hown, hts⟩ (g_times l D cI cL cB cZ cT _ aA sA zA sM zM vO x_1 x_2) (cwV 2 hts gX0_calculate_X0_times rfl rfl rfl (by decide +kernel) ⟨Nat.le_of_ble_eq_true rfl, Nat.le_of_ble_eq_true rfl⟩) (kPreV hG hP hD [0] rfl (by decide) 0 0 rfl rfl rfl) rfl rfl hl.1 rfl (lv_room (Nat.le_of_ble_eq_true rfl)) dX0_calculate_187 ⟨Nat.le_of_ble_eq_true rfl, Nat.le_of_ble_eq_true rfl⟩) hA hP hD hS [0] [] rfl rfl (by decide) (by decide) (fun _ u_r_10 H locs wr_10 hP hD hS => ?_)
    have hP : va_P D vwCl [(aA, .inr (0, [.int u_r_10.1, .long u_r_10.2.1, .int u_r_10.2.2.1, .long u_r_10.2.2.2, .int vO]))] H := hP
    have hD : va_D A [(aA, .inr (0, [.int u_r_10.1, .long u_r_10.2.1, .int u_r_10.2.2.1, .long u_r_10.2.2.2, .int vO]))] := hD
    try dsimp only at wr_10
    refine lv_aload_n hx hb dX0_calculate_190 rfl (lv_at hl 2 rfl) ?_
    refine kCallVd (wr := []) (va_runV (As := []) (rest := []) ⟨hx, hb, hml, hown, hts⟩ (g_round l D cI cL cB cZ cT _ aA (u_r_10.1) (u_r_10.2.1) (u_r_10.2.2.1) (u_r_10.2.2.2) vO) (cwV 0 hts gX0_calculate_X0_round rfl rfl rfl (by decide +kernel) ⟨Nat.le_of_ble_eq_true rfl, Nat.le_of_ble_eq_true rfl⟩) (kPreV hG hP hD [0] rfl (by decide) 0 0 rfl rfl rfl) rfl rfl hl.1 rfl (lv_room (Nat.le_of_ble_eq_true rfl)) dX0_calculate_191 ⟨Nat.le_of_ble_eq_true rfl, Nat.le_of_ble_eq_true rfl⟩) hA hP hD hS [0] [] rfl rfl (by decide) (by decide) (fun _ u_r_11 H locs wr_11 hP hD hS => ?_)
    have hP : va_P D vwCl [(aA, .inr (0, [.int u_r_10.1, .long u_r_11.1, .int u_r_10.2.2.1, .long u_r_10.2.2.2, .int u_r_11.2]))] H := hP
    have hD : va_D A [(aA, .inr (0, [.int u_r_10.1, .long u_r_11.1, .int u_r_10.2.2.1, .long u_r_10.2.2.2, .int u_r_11.2]))] := hD
    try dsimp only at wr_11
    refine lv_goto (tgt := 214) hx hb dX0_calculate_194 (by decide) ?_
    refine lv_iconst (v := 0) hx hb dX0_calculate_214 (by decide) ?_
    refine kIret (u := (u_r_10.1, u_r_11.1, u_r_10.2.2.1, u_r_10.2.2.2, u_r_11.2)) hx hb hr rfl hlocks hS dX0_calculate_215 ?_ (hP.sub [0] rfl) (hD.sub [0] (by decide) rfl)
    exact trivial
  · refine lv_tableIn (tgt := 197) (off := 180) hx hb dX0_calculate_17 (by decide) (by decide) (by decide) (by decide) ?_
    refine lv_aload_n hx hb dX0_calculate_197 rfl (lv_at hl 2 rfl) ?_
    refine lv_iload hx hb dX0_calculate_198 (lv_at hl 1 rfl) ?_
    refine lv_lload hx hb dX0_calculate_200 (lv_at hl 0 rfl) ?_
    refine kCallI (wr := []) (va_runV (As := [.int x_1, .long x_2]) (rest := []) ⟨hx, hb, hml, hown, hts⟩ (g_share l D cI cL cB cZ cT _ aA sA zA sM zM vO x_1 x_2) (cwV 2 hts gX0_calculate_X0_share rfl rfl rfl (by decide +kernel) ⟨Nat.le_of_ble_eq_true rfl, Nat.le_of_ble_eq_true rfl⟩) (kPreV hG hP hD [0] rfl (by decide) 0 0 rfl rfl rfl) rfl rfl hl.1 rfl (lv_room (Nat.le_of_ble_eq_true rfl)) dX0_calculate_202 ⟨Nat.le_of_ble_eq_true rfl, Nat.le_of_ble_eq_true rfl⟩) hA hP hD hS [0] [] rfl rfl (by decide) (by decide) (fun r_12 u_r_12 H locs wr_12 hP hD hS => ?_)
    have hP : va_P D vwCl [(aA, .inr (0, [.int sA, .long u_r_12.1, .int u_r_12.2.1, .long u_r_12.2.2, .int vO]))] H := hP
    have hD : va_D A [(aA, .inr (0, [.int sA, .long u_r_12.1, .int u_r_12.2.1, .long u_r_12.2.2, .int vO]))] := hD
    try dsimp only at wr_12
    refine lv_if_eq (tgt := 212) hx hb dX0_calculate_205 (by decide) (fun c_205_12 => ?_) (fun c_205_12 => ?_)
    · have t_205_12 := c_205_12
      try simp only [kb_eq0, kb_ne0, lg_cmp_lt, lg_cmp_le, lg_cmp_gt, lg_cmp_ge, lg_cmp_eq] at t_205_12
      try simp only [Int32.lt_iff_toInt_lt, Int32.le_iff_toInt_le, ← Int32.toInt_inj, Int64.lt_iff_toInt_lt, Int64.le_iff_toInt_le, ← Int64.toInt_inj, Int32.toInt_toInt64, Int32.reduceToInt, Int64.reduceToInt] at t_205_12
      refine lv_iconst (v := 3) hx hb dX0_calculate_212 (by decide) ?_
      refine kIret (u := (sA, u_r_12.1, u_r_12.2.1, u_r_12.2.2, vO)) hx hb hr rfl hlocks hS dX0_calculate_213 ?_ (hP.sub [0] rfl) (hD.sub [0] (by decide) rfl)
      exact trivial
    · have t_205_12 := c_205_12
      try simp only [kb_eq0, kb_ne0, lg_cmp_lt, lg_cmp_le, lg_cmp_gt, lg_cmp_ge, lg_cmp_eq] at t_205_12
      try simp only [Int32.lt_iff_toInt_lt, Int32.le_iff_toInt_le, ← Int32.toInt_inj, Int64.lt_iff_toInt_lt, Int64.le_iff_toInt_le, ← Int64.toInt_inj, Int32.toInt_toInt64, Int32.reduceToInt, Int64.reduceToInt] at t_205_12
      refine lv_iconst (v := 0) hx hb dX0_calculate_208 (by decide) ?_
      refine lv_goto (tgt := 213) hx hb dX0_calculate_209 (by decide) ?_
      refine kIret (u := (sA, u_r_12.1, u_r_12.2.1, u_r_12.2.2, vO)) hx hb hr rfl hlocks hS dX0_calculate_213 ?_ (hP.sub [0] rfl) (hD.sub [0] (by decide) rfl)
      exact trivial
