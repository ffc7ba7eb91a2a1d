def kTp (g : Nat → Option Nat) (t : Int32) : Option Nat := if 0 ≤ t.toInt ∧ t.toInt < 4 then g t.toNatClampNeg else none
def k4 (a b c d : Nat) : Nat → Option Nat := va_up (va_up (va_up (va_up (fun _ => none) 0 (some a)) 1 (some b)) 2 (some c)) 3 (some d)
theorem kTp_c (a b c d : Nat) (t : Int32) : ((t.toInt < 0 ∨ 3 < t.toInt) ∧ kTp (k4 a b c d) t = none) ∨ (t = 0 ∧ kTp (k4 a b c d) t = some a) ∨ (t = 1 ∧ kTp (k4 a b c d) t = some b) ∨ (t = 2 ∧ kTp (k4 a b c d) t = some c) ∨ (t = 3 ∧ kTp (k4 a b c d) t = some d) := by
  rcases ksw_0_3 t with h | rfl | rfl | rfl | rfl
  · exact Or.inl ⟨h, if_neg (by omega)⟩
  · exact Or.inr (Or.inl ⟨rfl, rfl⟩)
  · exact Or.inr (Or.inr (Or.inl ⟨rfl, rfl⟩))
  · exact Or.inr (Or.inr (Or.inr (Or.inl ⟨rfl, rfl⟩)))
  · exact Or.inr (Or.inr (Or.inr (Or.inr ⟨rfl, rfl⟩)))
set_option maxRecDepth 100000 in
theorem iX6_tapeAt_X6 : ∀ w ∈ wsX60, w ∈ wsX6_tapeAt := fun w h => (goodIn_r (big := wsX6_tapeAt) wsX60 [2, 3, 4, 5] rfl (by decide +kernel) w h).1
set_option maxRecDepth 100000 in
set_option maxHeartbeats 4000000 in
theorem c_tapeAt (l : Launch) (D : va_G) (cI cL cB cZ cT : ClassId) (sz : Nat) (aU bT aD : Nat) (ch ww : Int32) (g : Nat → Option Nat) (t : Int32) : kM (S := Unit) l yX6_tapeAt wsX6_tapeAt ({ frames := 0, cells := 0, slots := 0, locals := 0 }) D (kT cI cL cB cZ cT) [.ref aU, .int t] [(aU, .inr (6, [.ref bT, .ref aD, .int ch, .int ww])), (bT, .inl (cT, 4, .inr (.inr (.inr (.inr g)))))] sz eR (fun r _ => r = (kTp g t)) (fun _ => [(aU, .inr (6, [.ref bT, .ref aD, .int ch, .int ww])), (bT, .inl (cT, 4, .inr (.inr (.inr (.inr g)))))]) 0 0 := by
  refine kStart (cc := cX6_tapeAt) (maxL := 2) (ret := (some (.object "TapeCalculator$Tape"))) (own := RX6) (by decide) rfl rfl (Nat.le_of_ble_eq_true rfl) ?_
  intro p e s m args below meth c A ls hx hb hr hml hown hts hlocks hnm hsz hA hG hP hD hS hl
  have hK := hG.1
  have hl : lv_has ls 2 [(0, .ref aU), (1, .int t)] := hl
  refine lv_iload_n hx hb dX6_tapeAt_0 rfl (lv_at hl 1 rfl) ?_
  refine lv_if_lt (tgt := 22) hx hb dX6_tapeAt_1 (by decide) (fun c_1_0 => ?_) (fun c_1_0 => ?_)
  · have t_1_0 := c_1_0
    try simp only [kb_eq0, kb_ne0, lg_cmp_lt, lg_cmp_le, lg_cmp_gt, lg_cmp_ge, lg_cmp_eq] at t_1_0
    try simp only [Int32.lt_iff_toInt_lt, Int32.le_iff_toInt_le, ← Int32.toInt_inj, Int64.lt_iff_toInt_lt, Int64.le_iff_toInt_le, ← Int64.toInt_inj, Int32.toInt_toInt64, Int32.reduceToInt, Int64.reduceToInt] at t_1_0
    refine lv_null hx hb dX6_tapeAt_22 ?_
    refine kAret (u := ()) (v := none) hx hb hr (Or.inl ⟨_, rfl⟩) hlocks hS dX6_tapeAt_23 ?_ (hP.sub [0, 1] rfl) (hD.sub [0, 1] (by decide) rfl)
    first
      | exact (if_pos (by omega)).symm
      | exact (if_neg (by omega)).symm
  · have t_1_0 := c_1_0
    try simp only [kb_eq0, kb_ne0, lg_cmp_lt, lg_cmp_le, lg_cmp_gt, lg_cmp_ge, lg_cmp_eq] at t_1_0
    try simp only [Int32.lt_iff_toInt_lt, Int32.le_iff_toInt_le, ← Int32.toInt_inj, Int64.lt_iff_toInt_lt, Int64.le_iff_toInt_le, ← Int64.toInt_inj, Int32.toInt_toInt64, Int32.reduceToInt, Int64.reduceToInt] at t_1_0
    refine lv_iload_n hx hb dX6_tapeAt_4 rfl (lv_at hl 1 rfl) ?_
    refine lv_aload_n hx hb dX6_tapeAt_5 rfl (lv_at hl 0 rfl) ?_
    refine va_get (D := D) (ci := 6) (v := .ref bT) (C := RX6) (T := TX6) (N := 4) hx hb hts iX6_tapeAt_X6 hown hK hP 0 rfl rfl 0 (by decide) (hts (.fieldLink RX6 11 "TapeCalculator$Units" "tapes" "[LTapeCalculator$Tape;") (List.mem_of_getElem? (i := 1) rfl)) (fun _ h9 => h9) rfl dX6_tapeAt_6 ?_
    refine va_alen hx hb hK hP 1 4 rfl rfl (v := 4) rfl dX6_tapeAt_9 ?_
    refine lv_icmp_ge (tgt := 22) hx hb dX6_tapeAt_10 (by decide) (fun c_10_1 => ?_) (fun c_10_1 => ?_)
    · have t_10_1 := c_10_1
      try simp only [kb_eq0, kb_ne0, lg_cmp_lt, lg_cmp_le, lg_cmp_gt, lg_cmp_ge, lg_cmp_eq] at t_10_1
      try simp only [Int32.lt_iff_toInt_lt, Int32.le_iff_toInt_le, ← Int32.toInt_inj, Int64.lt_iff_toInt_lt, Int64.le_iff_toInt_le, ← Int64.toInt_inj, Int32.toInt_toInt64, Int32.reduceToInt, Int64.reduceToInt] at t_10_1
      refine lv_null hx hb dX6_tapeAt_22 ?_
      refine kAret (u := ()) (v := none) hx hb hr (Or.inl ⟨_, rfl⟩) hlocks hS dX6_tapeAt_23 ?_ (hP.sub [0, 1] rfl) (hD.sub [0, 1] (by decide) rfl)
      first
        | exact (if_pos (by omega)).symm
        | exact (if_neg (by omega)).symm
    · have t_10_1 := c_10_1
      try simp only [kb_eq0, kb_ne0, lg_cmp_lt, lg_cmp_le, lg_cmp_gt, lg_cmp_ge, lg_cmp_eq] at t_10_1
      try simp only [Int32.lt_iff_toInt_lt, Int32.le_iff_toInt_le, ← Int32.toInt_inj, Int64.lt_iff_toInt_lt, Int64.le_iff_toInt_le, ← Int64.toInt_inj, Int32.toInt_toInt64, Int32.reduceToInt, Int64.reduceToInt] at t_10_1
      refine lv_aload_n hx hb dX6_tapeAt_13 rfl (lv_at hl 0 rfl) ?_
      refine va_get (D := D) (ci := 6) (v := .ref bT) (C := RX6) (T := TX6) (N := 4) hx hb hts iX6_tapeAt_X6 hown hK hP 0 rfl rfl 0 (by decide) (hts (.fieldLink RX6 11 "TapeCalculator$Units" "tapes" "[LTapeCalculator$Tape;") (List.mem_of_getElem? (i := 1) rfl)) (fun _ h9 => h9) rfl dX6_tapeAt_14 ?_
      refine lv_iload_n hx hb dX6_tapeAt_17 rfl (lv_at hl 1 rfl) ?_
      refine va_aldq hx hb hK hP 1 4 rfl rfl (vp_in_iff.mpr (by omega)) dX6_tapeAt_18 ?_
      refine lv_goto (tgt := 23) hx hb dX6_tapeAt_19 (by decide) ?_
      refine kAret (u := ()) (v := (g t.toNatClampNeg)) hx hb hr (Or.inl ⟨_, rfl⟩) hlocks hS dX6_tapeAt_23 ?_ (hP.sub [0, 1] rfl) (hD.sub [0, 1] (by decide) rfl)
      first
        | exact (if_pos (by omega)).symm
        | exact (if_neg (by omega)).symm
set_option maxRecDepth 100000 in
theorem iX6_writtenTape_X6 : ∀ w ∈ wsX60, w ∈ wsX6_writtenTape := fun w h => (goodIn_r (big := wsX6_writtenTape) wsX60 [8, 9, 10, 11] rfl (by decide +kernel) w h).1
set_option maxRecDepth 100000 in
set_option maxHeartbeats 4000000 in
theorem c_writtenTape (l : Launch) (D : va_G) (cI cL cB cZ cT : ClassId) (sz : Nat) (aU bT aD : Nat) (g : Nat → Option Nat) : kM (S := Unit) l yX6_writtenTape wsX6_writtenTape ({ frames := 1, cells := 0, slots := 0, locals := 21 }) D (kT cI cL cB cZ cT) [.ref aU] [(aU, .inr (6, [.ref bT, .ref aD, .int 0, .int 0])), (bT, .inl (cT, 4, .inr (.inr (.inr (.inr g)))))] sz eR (fun r _ => r = none) (fun _ => [(aU, .inr (6, [.ref bT, .ref aD, .int 0, .int 0])), (bT, .inl (cT, 4, .inr (.inr (.inr (.inr g)))))]) 0 0 := by
  refine kStart (cc := cX6_writtenTape) (maxL := 1) (ret := (some (.object "TapeCalculator$Tape"))) (own := RX6) (by decide) rfl rfl (Nat.le_of_ble_eq_true rfl) ?_
  intro p e s m args below meth c A ls hx hb hr hml hown hts hlocks hnm hsz hA hG hP hD hS hl
  have hK := hG.1
  have hl : lv_has ls 1 [(0, .ref aU)] := hl
  refine lv_aload_n hx hb dX6_writtenTape_0 rfl (lv_at hl 0 rfl) ?_
  refine va_get (D := D) (ci := 6) (v := .int 0) (C := RX6) (T := TX6) (N := 4) hx hb hts iX6_writtenTape_X6 hown hK hP 0 rfl rfl 2 (by decide) (hts (.fieldLink RX6 36 "TapeCalculator$Units" "chosen" "I") (List.mem_of_getElem? (i := 1) rfl)) (fun _ h9 => h9) rfl dX6_writtenTape_1 ?_
  refine lv_bipush (v := 13) hx hb dX6_writtenTape_4 (by decide) ?_
  refine lv_icmp_ge (tgt := 23) hx hb dX6_writtenTape_6 (by decide) (fun c_6_0 => ?_) (fun c_6_0 => ?_)
  · exact absurd c_6_0 (by decide)
  · have t_6_0 := c_6_0
    try simp only [kb_eq0, kb_ne0, lg_cmp_lt, lg_cmp_le, lg_cmp_gt, lg_cmp_ge, lg_cmp_eq] at t_6_0
    try simp only [Int32.lt_iff_toInt_lt, Int32.le_iff_toInt_le, ← Int32.toInt_inj, Int64.lt_iff_toInt_lt, Int64.le_iff_toInt_le, ← Int64.toInt_inj, Int32.toInt_toInt64, Int32.reduceToInt, Int64.reduceToInt] at t_6_0
    refine lv_aload_n hx hb dX6_writtenTape_9 rfl (lv_at hl 0 rfl) ?_
    refine lv_aload_n hx hb dX6_writtenTape_10 rfl (lv_at hl 0 rfl) ?_
    refine va_get (D := D) (ci := 6) (v := .int 0) (C := RX6) (T := TX6) (N := 4) hx hb hts iX6_writtenTape_X6 hown hK hP 0 rfl rfl 2 (by decide) (hts (.fieldLink RX6 36 "TapeCalculator$Units" "chosen" "I") (List.mem_of_getElem? (i := 1) rfl)) (fun _ h9 => h9) rfl dX6_writtenTape_11 ?_
    refine lv_bipush (v := 9) hx hb dX6_writtenTape_14 (by decide) ?_
    refine lv_isub hx hb dX6_writtenTape_16 ?_
    refine lv_topi (fun x_2 ex_2 => ?_)
    obtain rfl : x_2 = (-9) := ex_2.trans (by decide)
    refine kCallR (wr := []) (va_runV (As := [.int (-9)]) (rest := []) ⟨hx, hb, hml, hown, hts⟩ (c_tapeAt l D cI cL cB cZ cT _ aU bT aD 0 0 g (-9)) (cwV 1 hts gX6_writtenTape_X6_tapeAt rfl rfl rfl (by decide +kernel) ⟨Nat.le_of_ble_eq_true rfl, Nat.le_of_ble_eq_true rfl⟩) (kPreV hG hP hD [0, 1] rfl (by decide) 0 6 rfl rfl rfl) rfl rfl hl.1 rfl (lv_room (Nat.le_of_ble_eq_true rfl)) dX6_writtenTape_17 ⟨Nat.le_of_ble_eq_true rfl, Nat.le_of_ble_eq_true rfl⟩) hA hP hD hS [0, 1] [] rfl rfl (by decide) (by decide) (fun r_3 u_r_3 H locs wr_3 hP hD hS => ?_)
    have hP : va_P D vwCl [(aU, .inr (6, [.ref bT, .ref aD, .int 0, .int 0])), (bT, .inl (cT, 4, .inr (.inr (.inr (.inr g)))))] H := hP
    have hD : va_D A [(aU, .inr (6, [.ref bT, .ref aD, .int 0, .int 0])), (bT, .inl (cT, 4, .inr (.inr (.inr (.inr g)))))] := hD
    try dsimp only at wr_3
    subst wr_3
    rw [show kTp g (-9) = none from if_neg (by decide)]
    refine lv_goto (tgt := 24) hx hb dX6_writtenTape_20 (by decide) ?_
    refine kAret (u := ()) (v := none) hx hb hr (Or.inl ⟨_, rfl⟩) hlocks hS dX6_writtenTape_24 ?_ (hP.sub [0, 1] rfl) (hD.sub [0, 1] (by decide) rfl)
    exact rfl
set_option maxRecDepth 100000 in
theorem iX6_endRecord_X6 : ∀ w ∈ wsX60, w ∈ wsX6_endRecord := fun w h => (goodIn_r (big := wsX6_endRecord) wsX60 [22, 23, 24, 25] rfl (by decide +kernel) w h).1
set_option maxRecDepth 100000 in
set_option maxHeartbeats 4000000 in
theorem c_endRecord (l : Launch) (D : va_G) (cI cL cB cZ cT : ClassId) (sz : Nat) (aU bT aD : Nat) (g : Nat → Option Nat) : kM (S := Unit) l yX6_endRecord wsX6_endRecord ({ frames := 2, cells := 0, slots := 0, locals := 41 }) D (kT cI cL cB cZ cT) [.ref aU] [(aU, .inr (6, [.ref bT, .ref aD, .int 0, .int 0])), (bT, .inl (cT, 4, .inr (.inr (.inr (.inr g)))))] sz eI (fun r _ => r = 1) (fun _ => [(aU, .inr (6, [.ref bT, .ref aD, .int 0, .int 0])), (bT, .inl (cT, 4, .inr (.inr (.inr (.inr g)))))]) 0 0 := by
  refine kStart (cc := cX6_endRecord) (maxL := 3) (ret := (some .boolean)) (own := RX6) (by decide) rfl rfl (Nat.le_of_ble_eq_true rfl) ?_
  intro p e s m args below meth c A ls hx hb hr hml hown hts hlocks hnm hsz hA hG hP hD hS hl
  have hK := hG.1
  have hl : lv_has ls 3 [(0, .ref aU)] := hl
  refine lv_aload_n hx hb dX6_endRecord_0 rfl (lv_at hl 0 rfl) ?_
  refine kCallR (wr := []) (va_runV (As := []) (rest := []) ⟨hx, hb, hml, hown, hts⟩ (c_writtenTape l D cI cL cB cZ cT _ aU bT aD g) (cwV 0 hts gX6_endRecord_X6_writtenTape rfl rfl rfl (by decide +kernel) ⟨Nat.le_of_ble_eq_true rfl, Nat.le_of_ble_eq_true rfl⟩) (kPreV hG hP hD [0, 1] rfl (by decide) 0 6 rfl rfl rfl) rfl rfl hl.1 rfl (lv_room (Nat.le_of_ble_eq_true rfl)) dX6_endRecord_1 ⟨Nat.le_of_ble_eq_true rfl, Nat.le_of_ble_eq_true rfl⟩) hA hP hD hS [0, 1] [] rfl rfl (by decide) (by decide) (fun r_1 u_r_1 H locs wr_1 hP hD hS => ?_)
  have hP : va_P D vwCl [(aU, .inr (6, [.ref bT, .ref aD, .int 0, .int 0])), (bT, .inl (cT, 4, .inr (.inr (.inr (.inr g)))))] H := hP
  have hD : va_D A [(aU, .inr (6, [.ref bT, .ref aD, .int 0, .int 0])), (bT, .inl (cT, 4, .inr (.inr (.inr (.inr g)))))] := hD
  try dsimp only at wr_1
  subst wr_1
  refine lv_astore_nN (lv' := [(1, .null), (0, .ref aU)]) hx hb dX6_endRecord_4 rfl hl (by decide) rfl (fun ls hl => ?_)
  refine lv_aload_n hx hb dX6_endRecord_5 rfl (lv_at hl 1 rfl) ?_
  refine va_get (D := D) (ci := 6) (v := .int 0) (C := RX6) (T := TX6) (N := 4) hx hb hts iX6_endRecord_X6 hown hK hP 0 rfl rfl 3 (by decide) (hts (.fieldLink RX6 39 "TapeCalculator$Units" "wordWritten" "Z") (List.mem_of_getElem? (i := 1) rfl)) (fun _ h9 => h9) rfl dX6_endRecord_6 ?_
  refine lv_istore_n (lv' := [(2, .int 0), (1, .null), (0, .ref aU)]) hx hb dX6_endRecord_9 rfl hl (by decide) rfl (fun ls hl => ?_)
  refine lv_aload_n hx hb dX6_endRecord_10 rfl (lv_at hl 2 rfl) ?_
  refine lv_iconst (v := 0) hx hb dX6_endRecord_11 (by decide) ?_
  refine va_put (D := D) (ci := 6) (v := .int 0) (ty := .boolean) (C := RX6) (T := TX6) (N := 4) hx hb hts iX6_endRecord_X6 tyX6 tyX6_ok nmX6 hown hK hP hD hS 0 rfl rfl 3 (by decide) (hts (.fieldLink RX6 39 "TapeCalculator$Units" "wordWritten" "Z") (List.mem_of_getElem? (i := 1) rfl)) (fun _ h9 => h9) rfl (by decide +kernel) rfl rfl (Nat.le_of_ble_eq_true rfl) dX6_endRecord_12 (fun H locs hP hD hS => ?_)
  have hP : va_P D vwCl [(aU, .inr (6, [.ref bT, .ref aD, .int 0, .int 0])), (bT, .inl (cT, 4, .inr (.inr (.inr (.inr g)))))] H := hP
  have hD : va_D A [(aU, .inr (6, [.ref bT, .ref aD, .int 0, .int 0])), (bT, .inl (cT, 4, .inr (.inr (.inr (.inr g)))))] := hD
  refine lv_aload_nN hx hb dX6_endRecord_15 rfl (lv_at hl 1 rfl) ?_
  refine lv_ifnullN (tgt := 33) hx hb dX6_endRecord_16 (by decide) ?_
  refine lv_iconst (v := 1) hx hb dX6_endRecord_33 (by decide) ?_
  refine lv_goto (tgt := 38) hx hb dX6_endRecord_34 (by decide) ?_
  refine kIret (u := ()) hx hb hr rfl hlocks hS dX6_endRecord_38 ?_ (hP.sub [0, 1] rfl) (hD.sub [0, 1] (by decide) rfl)
  exact rfl
set_option maxRecDepth 100000 in
theorem iX6_endByStop_X6 : ∀ w ∈ wsX60, w ∈ wsX6_endByStop := fun w h => (goodIn_r (big := wsX6_endByStop) wsX60 [26, 27, 28, 29] rfl (by decide +kernel) w h).1
set_option maxRecDepth 100000 in
set_option maxHeartbeats 4000000 in
theorem c_endByStop (l : Launch) (D : va_G) (cI cL cB cZ cT : ClassId) (sz : Nat) (aU bT aD : Nat) (g : Nat → Option Nat) : kM (S := Unit) l yX6_endByStop wsX6_endByStop ({ frames := 3, cells := 0, slots := 0, locals := 63 }) D (kT cI cL cB cZ cT) [.ref aU] [(aU, .inr (6, [.ref bT, .ref aD, .int 0, .int 0])), (bT, .inl (cT, 4, .inr (.inr (.inr (.inr g)))))] sz eV (fun _ _ => True) (fun _ => [(aU, .inr (6, [.ref bT, .ref aD, .int 0, .int 0])), (bT, .inl (cT, 4, .inr (.inr (.inr (.inr g)))))]) 0 0 := by
  refine kStart (cc := cX6_endByStop) (maxL := 1) (ret := none) (own := RX6) (by decide) rfl rfl (Nat.le_of_ble_eq_true rfl) ?_
  intro p e s m args below meth c A ls hx hb hr hml hown hts hlocks hnm hsz hA hG hP hD hS hl
  have hK := hG.1
  have hl : lv_has ls 1 [(0, .ref aU)] := hl
  refine lv_aload_n hx hb dX6_endByStop_0 rfl (lv_at hl 0 rfl) ?_
  refine kCallI (wr := []) (va_runV (As := []) (rest := []) ⟨hx, hb, hml, hown, hts⟩ (c_endRecord l D cI cL cB cZ cT _ aU bT aD g) (cwV 0 hts gX6_endByStop_X6_endRecord rfl rfl rfl (by decide +kernel) ⟨Nat.le_of_ble_eq_true rfl, Nat.le_of_ble_eq_true rfl⟩) (kPreV hG hP hD [0, 1] rfl (by decide) 0 6 rfl rfl rfl) rfl rfl hl.1 rfl (lv_room (Nat.le_of_ble_eq_true rfl)) dX6_endByStop_1 ⟨Nat.le_of_ble_eq_true rfl, Nat.le_of_ble_eq_true rfl⟩) hA hP hD hS [0, 1] [] rfl rfl (by decide) (by decide) (fun r_1 u_r_1 H locs wr_1 hP hD hS => ?_)
  have hP : va_P D vwCl [(aU, .inr (6, [.ref bT, .ref aD, .int 0, .int 0])), (bT, .inl (cT, 4, .inr (.inr (.inr (.inr g)))))] H := hP
  have hD : va_D A [(aU, .inr (6, [.ref bT, .ref aD, .int 0, .int 0])), (bT, .inl (cT, 4, .inr (.inr (.inr (.inr g)))))] := hD
  try dsimp only at wr_1
  subst wr_1
  refine lv_pop hx hb dX6_endByStop_4 rfl ?_
  refine lv_aload_n hx hb dX6_endByStop_5 rfl (lv_at hl 0 rfl) ?_
  refine lv_iconst (v := 0) hx hb dX6_endByStop_6 (by decide) ?_
  refine va_put (D := D) (ci := 6) (v := .int 0) (ty := .int) (C := RX6) (T := TX6) (N := 4) hx hb hts iX6_endByStop_X6 tyX6 tyX6_ok nmX6 hown hK hP hD hS 0 rfl rfl 2 (by decide) (hts (.fieldLink RX6 36 "TapeCalculator$Units" "chosen" "I") (List.mem_of_getElem? (i := 1) rfl)) (fun _ h9 => h9) rfl (by decide +kernel) rfl rfl (Nat.le_of_ble_eq_true rfl) dX6_endByStop_7 (fun H locs hP hD hS => ?_)
  have hP : va_P D vwCl [(aU, .inr (6, [.ref bT, .ref aD, .int 0, .int 0])), (bT, .inl (cT, 4, .inr (.inr (.inr (.inr g)))))] H := hP
  have hD : va_D A [(aU, .inr (6, [.ref bT, .ref aD, .int 0, .int 0])), (bT, .inl (cT, 4, .inr (.inr (.inr (.inr g)))))] := hD
  refine kVret (u := ()) hx hb hr hlocks hS dX6_endByStop_10 ?_ (hP.sub [0, 1] rfl) (hD.sub [0, 1] (by decide) rfl)
  exact trivial
set_option maxRecDepth 100000 in
theorem iX7_passOver_X7 : ∀ w ∈ wsX70, w ∈ wsX7_passOver := fun w h => (goodIn_r (big := wsX7_passOver) wsX70 [2, 3, 4, 5, 6, 7, 8, 9, 10, 11, 12] rfl (by decide +kernel) w h).1
set_option maxRecDepth 100000 in
set_option maxHeartbeats 4000000 in
theorem c_passOver (l : Launch) (D : va_G) (cI cL cB cZ cT : ClassId) (sz : Nat) (h0 aS aA aU aX aW : Nat) (pl np li sw lst : Int32) (ad : Int64) (mo : Int32) : kM (S := (Int32)) l yX7_passOver wsX7_passOver ({ frames := 0, cells := 0, slots := 0, locals := 0 }) D (kT cI cL cB cZ cT) [.ref h0, .int mo] [(h0, .inr (7, [.ref aS, .ref aA, .ref aU, .ref aX, .ref aW, .int pl, .int np, .int li, .int sw, .int lst, .long ad]))] sz eV (fun _ _ => True) (fun u => [(h0, .inr (7, [.ref aS, .ref aA, .ref aU, .ref aX, .ref aW, .int pl, .int u, .int li, .int sw, .int lst, .long ad]))]) 0 0 := by
  refine kStart (cc := cX7_passOver) (maxL := 2) (ret := none) (own := RX7) (by decide) rfl rfl (Nat.le_of_ble_eq_true rfl) ?_
  intro p e s m args below meth c A ls hx hb hr hml hown hts hlocks hnm hsz hA hG hP hD hS hl
  have hK := hG.1
  have hl : lv_has ls 2 [(0, .ref h0), (1, .int mo)] := hl
  refine lv_aload_n hx hb dX7_passOver_0 rfl (lv_at hl 0 rfl) ?_
  refine lv_aload_n hx hb dX7_passOver_1 rfl (lv_at hl 0 rfl) ?_
  refine va_get (D := D) (ci := 7) (v := .int np) (C := RX7) (T := TX7) (N := 11) hx hb hts iX7_passOver_X7 hown hK hP 0 rfl rfl 6 (by decide) (hts (.fieldLink RX7 178 "TapeCalculator" "nextPlace" "I") (List.mem_of_getElem? (i := 1) rfl)) (fun _ h9 => h9) rfl dX7_passOver_2 ?_
  refine lv_iload_n hx hb dX7_passOver_5 rfl (lv_at hl 1 rfl) ?_
  refine lv_iadd hx hb dX7_passOver_6 ?_
  refine lv_sipush (v := 511) hx hb dX7_passOver_7 (by decide) ?_
  refine lv_iand hx hb dX7_passOver_10 ?_
  refine lv_topi (fun x_1 ex_1 => ?_)
  refine va_put (D := D) (ci := 7) (v := .int x_1) (ty := .int) (C := RX7) (T := TX7) (N := 11) hx hb hts iX7_passOver_X7 tyX7 tyX7_ok nmX7 hown hK hP hD hS 0 rfl rfl 6 (by decide) (hts (.fieldLink RX7 178 "TapeCalculator" "nextPlace" "I") (List.mem_of_getElem? (i := 1) rfl)) (fun _ h9 => h9) rfl (by decide +kernel) rfl rfl (Nat.le_of_ble_eq_true rfl) dX7_passOver_11 (fun H locs hP hD hS => ?_)
  have hP : va_P D vwCl [(h0, .inr (7, [.ref aS, .ref aA, .ref aU, .ref aX, .ref aW, .int pl, .int x_1, .int li, .int sw, .int lst, .long ad]))] H := hP
  have hD : va_D A [(h0, .inr (7, [.ref aS, .ref aA, .ref aU, .ref aX, .ref aW, .int pl, .int x_1, .int li, .int sw, .int lst, .long ad]))] := hD
  refine kVret (u := x_1) hx hb hr hlocks hS dX7_passOver_14 ?_ (hP.sub [0] rfl) (hD.sub [0] (by decide) rfl)
  exact trivial
set_option maxRecDepth 100000 in
theorem iX7_goTo_X7 : ∀ w ∈ wsX70, w ∈ wsX7_goTo := fun w h => (goodIn_r (big := wsX7_goTo) wsX70 [2, 3, 4, 5, 6, 7, 8, 9, 10, 11, 12] rfl (by decide +kernel) w h).1
set_option maxRecDepth 100000 in
set_option maxHeartbeats 4000000 in
theorem c_goTo (l : Launch) (D : va_G) (cI cL cB cZ cT : ClassId) (sz : Nat) (h0 aS aA aU aX aW : Nat) (pl np li sw lst : Int32) (ad : Int64) (mo : Int32) : kM (S := (Int32)) l yX7_goTo wsX7_goTo ({ frames := 0, cells := 0, slots := 0, locals := 0 }) D (kT cI cL cB cZ cT) [.ref h0, .int mo] [(h0, .inr (7, [.ref aS, .ref aA, .ref aU, .ref aX, .ref aW, .int pl, .int np, .int li, .int sw, .int lst, .long ad]))] sz eV (fun _ _ => True) (fun u => [(h0, .inr (7, [.ref aS, .ref aA, .ref aU, .ref aX, .ref aW, .int pl, .int u, .int li, .int sw, .int lst, .long ad]))]) 0 0 := by
  refine kStart (cc := cX7_goTo) (maxL := 2) (ret := none) (own := RX7) (by decide) rfl rfl (Nat.le_of_ble_eq_true rfl) ?_
  intro p e s m args below meth c A ls hx hb hr hml hown hts hlocks hnm hsz hA hG hP hD hS hl
  have hK := hG.1
  have hl : lv_has ls 2 [(0, .ref h0), (1, .int mo)] := hl
  refine lv_aload_n hx hb dX7_goTo_0 rfl (lv_at hl 0 rfl) ?_
  refine lv_iload_n hx hb dX7_goTo_1 rfl (lv_at hl 1 rfl) ?_
  refine lv_sipush (v := 511) hx hb dX7_goTo_2 (by decide) ?_
  refine lv_iand hx hb dX7_goTo_5 ?_
  refine lv_topi (fun x_1 ex_1 => ?_)
  refine va_put (D := D) (ci := 7) (v := .int x_1) (ty := .int) (C := RX7) (T := TX7) (N := 11) hx hb hts iX7_goTo_X7 tyX7 tyX7_ok nmX7 hown hK hP hD hS 0 rfl rfl 6 (by decide) (hts (.fieldLink RX7 178 "TapeCalculator" "nextPlace" "I") (List.mem_of_getElem? (i := 1) rfl)) (fun _ h9 => h9) rfl (by decide +kernel) rfl rfl (Nat.le_of_ble_eq_true rfl) dX7_goTo_6 (fun H locs hP hD hS => ?_)
  have hP : va_P D vwCl [(h0, .inr (7, [.ref aS, .ref aA, .ref aU, .ref aX, .ref aW, .int pl, .int x_1, .int li, .int sw, .int lst, .long ad]))] H := hP
  have hD : va_D A [(h0, .inr (7, [.ref aS, .ref aA, .ref aU, .ref aX, .ref aW, .int pl, .int x_1, .int li, .int sw, .int lst, .long ad]))] := hD
  refine kVret (u := x_1) hx hb hr hlocks hS dX7_goTo_9 ?_ (hP.sub [0] rfl) (hD.sub [0] (by decide) rfl)
  exact trivial
set_option maxRecDepth 100000 in
set_option maxHeartbeats 4000000 in
theorem c_perform (l : Launch) (D : va_G) (cI cL cB cZ cT : ClassId) (sz : Nat) (h0 aS aA aU aX aW : Nat) (pl np li sw lst : Int32) (ad : Int64) : kM (S := (Int32)) l yX7_perform wsX7_perform ({ frames := 1, cells := 0, slots := 0, locals := 21 }) D (kT cI cL cB cZ cT) [.ref h0, .int 0, .int 0, .int 0] [(h0, .inr (7, [.ref aS, .ref aA, .ref aU, .ref aX, .ref aW, .int pl, .int np, .int li, .int sw, .int lst, .long ad]))] sz eI (fun r _ => r = 1) (fun u => [(h0, .inr (7, [.ref aS, .ref aA, .ref aU, .ref aX, .ref aW, .int pl, .int u, .int li, .int sw, .int lst, .long ad]))]) 0 0 := by
  refine kStart (cc := cX7_perform) (maxL := 4) (ret := (some .int)) (own := RX7) (by decide) rfl rfl (Nat.le_of_ble_eq_true rfl) ?_
  intro p e s m args below meth c A ls hx hb hr hml hown hts hlocks hnm hsz hA hG hP hD hS hl
  have hK := hG.1
  have hl : lv_has ls 4 [(0, .ref h0), (1, .int 0), (2, .int 0), (3, .int 0)] := hl
  refine lv_iload_n hx hb dX7_perform_0 rfl (lv_at hl 1 rfl) ?_
  refine lv_tableIn (tgt := 144) (off := 143) hx hb dX7_perform_1 (by decide) (by decide) (by decide) (by decide) ?_
  refine lv_aload_n hx hb dX7_perform_144 rfl (lv_at hl 0 rfl) ?_
  refine lv_iload_n hx hb dX7_perform_145 rfl (lv_at hl 3 rfl) ?_
  refine kCallVd (wr := []) (va_runV (As := [.int 0]) (rest := []) ⟨hx, hb, hml, hown, hts⟩ (c_goTo l D cI cL cB cZ cT _ h0 aS aA aU aX aW pl np li sw lst ad 0) (cwV 1 hts gX7_perform_X7_goTo rfl rfl rfl (by decide +kernel) ⟨Nat.le_of_ble_eq_true rfl, Nat.le_of_ble_eq_true rfl⟩) (kPreV hG hP hD [0] rfl (by decide) 0 7 rfl rfl rfl) rfl rfl hl.1 rfl (lv_room (Nat.le_of_ble_eq_true rfl)) dX7_perform_146 ⟨Nat.le_of_ble_eq_true rfl, Nat.le_of_ble_eq_true rfl⟩) hA hP hD hS [0] [] rfl rfl (by decide) (by decide) (fun _ u_r_1 H locs wr_1 hP hD hS => ?_)
  have hP : va_P D vwCl [(h0, .inr (7, [.ref aS, .ref aA, .ref aU, .ref aX, .ref aW, .int pl, .int u_r_1, .int li, .int sw, .int lst, .long ad]))] H := hP
  have hD : va_D A [(h0, .inr (7, [.ref aS, .ref aA, .ref aU, .ref aX, .ref aW, .int pl, .int u_r_1, .int li, .int sw, .int lst, .long ad]))] := hD
  try dsimp only at wr_1
  refine lv_iconst (v := 1) hx hb dX7_perform_149 (by decide) ?_
  refine kIret (u := u_r_1) hx hb hr rfl hlocks hS dX7_perform_150 ?_ (hP.sub [0] rfl) (hD.sub [0] (by decide) rfl)
  exact rfl
set_option maxRecDepth 100000 in
set_option maxHeartbeats 4000000 in
theorem c_wants (l : Launch) (D : va_G) (cI cL cB cZ cT : ClassId) (sz : Nat)  : kM (S := Unit) l yX7_wantsHalfOfStore wsX7_wantsHalfOfStore ({ frames := 0, cells := 0, slots := 0, locals := 0 }) D (kT cI cL cB cZ cT) [.int 0] [] sz eI (fun r _ => r = 1) (fun _ => []) 0 0 := by
  refine kStart (cc := cX7_wantsHalfOfStore) (maxL := 1) (ret := (some .boolean)) (own := RX7) (by decide) rfl rfl (Nat.le_of_ble_eq_true rfl) ?_
  intro p e s m args below meth c A ls hx hb hr hml hown hts hlocks hnm hsz hA hG hP hD hS hl
  have hK := hG.1
  have hl : lv_has ls 1 [(0, .int 0)] := hl
  refine lv_iload_n hx hb dX7_wantsHalfOfStore_0 rfl (lv_at hl 0 rfl) ?_
  refine lv_bipush (v := 18) hx hb dX7_wantsHalfOfStore_1 (by decide) ?_
  refine lv_icmp_gt (tgt := 12) hx hb dX7_wantsHalfOfStore_3 (by decide) (fun c_3_0 => ?_) (fun c_3_0 => ?_)
  · exact absurd c_3_0 (by decide)
  · have t_3_0 := c_3_0
    try simp only [kb_eq0, kb_ne0, lg_cmp_lt, lg_cmp_le, lg_cmp_gt, lg_cmp_ge, lg_cmp_eq] at t_3_0
    try simp only [Int32.lt_iff_toInt_lt, Int32.le_iff_toInt_le, ← Int32.toInt_inj, Int64.lt_iff_toInt_lt, Int64.le_iff_toInt_le, ← Int64.toInt_inj, Int32.toInt_toInt64, Int32.reduceToInt, Int64.reduceToInt] at t_3_0
    refine lv_iload_n hx hb dX7_wantsHalfOfStore_6 rfl (lv_at hl 0 rfl) ?_
    refine lv_bipush (v := 8) hx hb dX7_wantsHalfOfStore_7 (by decide) ?_
    refine lv_icmp_ne (tgt := 18) hx hb dX7_wantsHalfOfStore_9 (by decide) (fun c_9_1 => ?_) (fun c_9_1 => ?_)
    · have t_9_1 := c_9_1
      try simp only [kb_eq0, kb_ne0, lg_cmp_lt, lg_cmp_le, lg_cmp_gt, lg_cmp_ge, lg_cmp_eq] at t_9_1
      try simp only [Int32.lt_iff_toInt_lt, Int32.le_iff_toInt_le, ← Int32.toInt_inj, Int64.lt_iff_toInt_lt, Int64.le_iff_toInt_le, ← Int64.toInt_inj, Int32.toInt_toInt64, Int32.reduceToInt, Int64.reduceToInt] at t_9_1
      refine lv_iconst (v := 1) hx hb dX7_wantsHalfOfStore_18 (by decide) ?_
      refine lv_goto (tgt := 23) hx hb dX7_wantsHalfOfStore_19 (by decide) ?_
      refine kIret (u := ()) hx hb hr rfl hlocks hS dX7_wantsHalfOfStore_23 ?_ (hP.sub [] rfl) (hD.sub [] (by decide) rfl)
      exact rfl
    · exact absurd c_9_1 (by decide)
set_option maxRecDepth 100000 in
theorem iX7_doNextAct_X7 : ∀ w ∈ wsX70, w ∈ wsX7_doNextAct := fun w h => (goodIn_r (big := wsX7_doNextAct) wsX70 [247, 248, 249, 250, 251, 252, 253, 254, 255, 256, 257] rfl (by decide +kernel) w h).1
set_option maxRecDepth 100000 in
set_option maxHeartbeats 4000000 in
theorem c_doNextAct (l : Launch) (D : va_G) (cI cL cB cZ cT : ClassId) (sz : Nat) (h0 aS aA aU aX aW : Nat) (bS bT aD : Nat) (g : Nat → Option Nat) : kM (S := (Int32 × Int32 × Int64)) l yX7_doNextAct wsX7_doNextAct ({ frames := 4, cells := 0, slots := 0, locals := 83 }) D (kT cI cL cB cZ cT) [.ref h0] [(h0, .inr (7, [.ref aS, .ref aA, .ref aU, .ref aX, .ref aW, .int 0, .int 0, .int 0, .int 0, .int 0, .long 0])), (aS, .inr (3, [.ref bS])), (bS, .inl (cI, 512, .inl (fun _ => 0))), (aU, .inr (6, [.ref bT, .ref aD, .int 0, .int 0])), (bT, .inl (cT, 4, .inr (.inr (.inr (.inr g)))))] sz eV (fun _ _ => True) (fun u => [(h0, .inr (7, [.ref aS, .ref aA, .ref aU, .ref aX, .ref aW, .int u.1, .int u.2.1, .int 0, .int 0, .int 1, .long u.2.2])), (aS, .inr (3, [.ref bS])), (bS, .inl (cI, 512, .inl (fun _ => 0))), (aU, .inr (6, [.ref bT, .ref aD, .int 0, .int 0])), (bT, .inl (cT, 4, .inr (.inr (.inr (.inr g)))))]) 0 0 := by
  refine kStart (cc := cX7_doNextAct) (maxL := 4) (ret := none) (own := RX7) (by decide) rfl rfl (Nat.le_of_ble_eq_true rfl) ?_
  intro p e s m args below meth c A ls hx hb hr hml hown hts hlocks hnm hsz hA hG hP hD hS hl
  have hK := hG.1
  have hl : lv_has ls 4 [(0, .ref h0)] := hl
  refine lv_aload_n hx hb dX7_doNextAct_0 rfl (lv_at hl 0 rfl) ?_
  refine va_get (D := D) (ci := 7) (v := .ref aS) (C := RX7) (T := TX7) (N := 11) hx hb hts iX7_doNextAct_X7 hown hK hP 0 rfl rfl 0 (by decide) (hts (.fieldLink RX7 12 "TapeCalculator" "store" "LTapeCalculator$Store;") (List.mem_of_getElem? (i := 1) rfl)) (fun _ h9 => h9) rfl dX7_doNextAct_1 ?_
  refine lv_aload_n hx hb dX7_doNextAct_4 rfl (lv_at hl 0 rfl) ?_
  refine va_get (D := D) (ci := 7) (v := .int 0) (C := RX7) (T := TX7) (N := 11) hx hb hts iX7_doNextAct_X7 hown hK hP 0 rfl rfl 5 (by decide) (hts (.fieldLink RX7 81 "TapeCalculator" "place" "I") (List.mem_of_getElem? (i := 2) rfl)) (fun _ h9 => h9) rfl dX7_doNextAct_5 ?_
  refine kCallI (wr := [(h0, .inr (7, [.ref aS, .ref aA, .ref aU, .ref aX, .ref aW, .int 0, .int 0, .int 0, .int 0, .int 0, .long 0])), (aU, .inr (6, [.ref bT, .ref aD, .int 0, .int 0])), (bT, .inl (cT, 4, .inr (.inr (.inr (.inr g)))))]) (va_runV (As := [.int 0]) (rest := []) ⟨hx, hb, hml, hown, hts⟩ (c_halfAt l D cI cL cB cZ cT _ aS bS 0) (cwV 1 hts gX7_doNextAct_X3_halfAt rfl rfl rfl (by decide +kernel) ⟨Nat.le_of_ble_eq_true rfl, Nat.le_of_ble_eq_true rfl⟩) (kPreV hG hP hD [1, 2] rfl (by decide) 0 3 rfl rfl rfl) rfl rfl hl.1 rfl (lv_room (Nat.le_of_ble_eq_true rfl)) dX7_doNextAct_8 ⟨Nat.le_of_ble_eq_true rfl, Nat.le_of_ble_eq_true rfl⟩) hA hP hD hS [1, 2] [0, 3, 4] rfl rfl (by decide) (by decide) (fun r_1 u_r_1 H locs wr_1 hP hD hS => ?_)
  have hP : va_P D vwCl [(h0, .inr (7, [.ref aS, .ref aA, .ref aU, .ref aX, .ref aW, .int 0, .int 0, .int 0, .int 0, .int 0, .long 0])), (aU, .inr (6, [.ref bT, .ref aD, .int 0, .int 0])), (bT, .inl (cT, 4, .inr (.inr (.inr (.inr g))))), (aS, .inr (3, [.ref bS])), (bS, .inl (cI, 512, .inl (fun _ => 0)))] H := hP
  have hD : va_D A [(h0, .inr (7, [.ref aS, .ref aA, .ref aU, .ref aX, .ref aW, .int 0, .int 0, .int 0, .int 0, .int 0, .long 0])), (aU, .inr (6, [.ref bT, .ref aD, .int 0, .int 0])), (bT, .inl (cT, 4, .inr (.inr (.inr (.inr g))))), (aS, .inr (3, [.ref bS])), (bS, .inl (cI, 512, .inl (fun _ => 0)))] := hD
  try dsimp only at wr_1
  subst wr_1
  refine lv_istore_n (lv' := [(1, .int 0), (0, .ref h0)]) hx hb dX7_doNextAct_11 rfl hl (by decide) rfl (fun ls hl => ?_)
  refine lv_iload_n hx hb dX7_doNextAct_12 rfl (lv_at hl 0 rfl) ?_
  refine lv_bipush (v := 12) hx hb dX7_doNextAct_13 (by decide) ?_
  refine lv_ishr hx hb dX7_doNextAct_15 ?_
  refine lv_topi (fun x_2 ex_2 => ?_)
  obtain rfl : x_2 = 0 := ex_2.trans (by decide)
  refine lv_bipush (v := 31) hx hb dX7_doNextAct_16 (by decide) ?_
  refine lv_iand hx hb dX7_doNextAct_18 ?_
  refine lv_topi (fun x_3 ex_3 => ?_)
  obtain rfl : x_3 = 0 := ex_3.trans (by decide)
  refine lv_istore_n (lv' := [(2, .int 0), (1, .int 0), (0, .ref h0)]) hx hb dX7_doNextAct_19 rfl hl (by decide) rfl (fun ls hl => ?_)
  refine lv_iload_n hx hb dX7_doNextAct_20 rfl (lv_at hl 1 rfl) ?_
  refine lv_sipush (v := 4095) hx hb dX7_doNextAct_21 (by decide) ?_
  refine lv_iand hx hb dX7_doNextAct_24 ?_
  refine lv_topi (fun x_4 ex_4 => ?_)
  obtain rfl : x_4 = 0 := ex_4.trans (by decide)
  refine lv_istore_n (lv' := [(3, .int 0), (2, .int 0), (1, .int 0), (0, .ref h0)]) hx hb dX7_doNextAct_25 rfl hl (by decide) rfl (fun ls hl => ?_)
  refine lv_aload_n hx hb dX7_doNextAct_26 rfl (lv_at hl 3 rfl) ?_
  refine lv_aload_n hx hb dX7_doNextAct_27 rfl (lv_at hl 3 rfl) ?_
  refine va_get (D := D) (ci := 7) (v := .int 0) (C := RX7) (T := TX7) (N := 11) hx hb hts iX7_doNextAct_X7 hown hK hP 0 rfl rfl 5 (by decide) (hts (.fieldLink RX7 81 "TapeCalculator" "place" "I") (List.mem_of_getElem? (i := 2) rfl)) (fun _ h9 => h9) rfl dX7_doNextAct_28 ?_
  refine va_put (D := D) (ci := 7) (v := .int 0) (ty := .int) (C := RX7) (T := TX7) (N := 11) hx hb hts iX7_doNextAct_X7 tyX7 tyX7_ok nmX7 hown hK hP hD hS 0 rfl rfl 6 (by decide) (hts (.fieldLink RX7 178 "TapeCalculator" "nextPlace" "I") (List.mem_of_getElem? (i := 3) rfl)) (fun _ h9 => h9) rfl (by decide +kernel) rfl rfl (Nat.le_of_ble_eq_true rfl) dX7_doNextAct_31 (fun H locs hP hD hS => ?_)
  have hP : va_P D vwCl [(h0, .inr (7, [.ref aS, .ref aA, .ref aU, .ref aX, .ref aW, .int 0, .int 0, .int 0, .int 0, .int 0, .long 0])), (aU, .inr (6, [.ref bT, .ref aD, .int 0, .int 0])), (bT, .inl (cT, 4, .inr (.inr (.inr (.inr g))))), (aS, .inr (3, [.ref bS])), (bS, .inl (cI, 512, .inl (fun _ => 0)))] H := hP
  have hD : va_D A [(h0, .inr (7, [.ref aS, .ref aA, .ref aU, .ref aX, .ref aW, .int 0, .int 0, .int 0, .int 0, .int 0, .long 0])), (aU, .inr (6, [.ref bT, .ref aD, .int 0, .int 0])), (bT, .inl (cT, 4, .inr (.inr (.inr (.inr g))))), (aS, .inr (3, [.ref bS])), (bS, .inl (cI, 512, .inl (fun _ => 0)))] := hD
  refine lv_aload_n hx hb dX7_doNextAct_34 rfl (lv_at hl 3 rfl) ?_
  refine lv_iconst (v := 1) hx hb dX7_doNextAct_35 (by decide) ?_
  refine kCallVd (wr := [(aU, .inr (6, [.ref bT, .ref aD, .int 0, .int 0])), (bT, .inl (cT, 4, .inr (.inr (.inr (.inr g))))), (aS, .inr (3, [.ref bS])), (bS, .inl (cI, 512, .inl (fun _ => 0)))]) (va_runV (As := [.int 1]) (rest := []) ⟨hx, hb, hml, hown, hts⟩ (c_passOver l D cI cL cB cZ cT _ h0 aS aA aU aX aW 0 0 0 0 0 0 1) (cwV 1 hts gX7_doNextAct_X7_passOver rfl rfl rfl (by decide +kernel) ⟨Nat.le_of_ble_eq_true rfl, Nat.le_of_ble_eq_true rfl⟩) (kPreV hG hP hD [0] rfl (by decide) 0 7 rfl rfl rfl) rfl rfl hl.1 rfl (lv_room (Nat.le_of_ble_eq_true rfl)) dX7_doNextAct_36 ⟨Nat.le_of_ble_eq_true rfl, Nat.le_of_ble_eq_true rfl⟩) hA hP hD hS [0] [1, 2, 3, 4] rfl rfl (by decide) (by decide) (fun _ u_r_5 H locs wr_5 hP hD hS => ?_)
  have hP : va_P D vwCl [(aU, .inr (6, [.ref bT, .ref aD, .int 0, .int 0])), (bT, .inl (cT, 4, .inr (.inr (.inr (.inr g))))), (aS, .inr (3, [.ref bS])), (bS, .inl (cI, 512, .inl (fun _ => 0))), (h0, .inr (7, [.ref aS, .ref aA, .ref aU, .ref aX, .ref aW, .int 0, .int u_r_5, .int 0, .int 0, .int 0, .long 0]))] H := hP
  have hD : va_D A [(aU, .inr (6, [.ref bT, .ref aD, .int 0, .int 0])), (bT, .inl (cT, 4, .inr (.inr (.inr (.inr g))))), (aS, .inr (3, [.ref bS])), (bS, .inl (cI, 512, .inl (fun _ => 0))), (h0, .inr (7, [.ref aS, .ref aA, .ref aU, .ref aX, .ref aW, .int 0, .int u_r_5, .int 0, .int 0, .int 0, .long 0]))] := hD
  try dsimp only at wr_5
  refine lv_aload_n hx hb dX7_doNextAct_39 rfl (lv_at hl 3 rfl) ?_
  refine lv_iload_n hx hb dX7_doNextAct_40 rfl (lv_at hl 1 rfl) ?_
  refine kCallI (wr := [(aU, .inr (6, [.ref bT, .ref aD, .int 0, .int 0])), (bT, .inl (cT, 4, .inr (.inr (.inr (.inr g))))), (aS, .inr (3, [.ref bS])), (bS, .inl (cI, 512, .inl (fun _ => 0))), (h0, .inr (7, [.ref aS, .ref aA, .ref aU, .ref aX, .ref aW, .int 0, .int u_r_5, .int 0, .int 0, .int 0, .long 0]))]) (va_runS (As := [.int 0]) (rest := [.ref h0]) ⟨hx, hb, hml, hown, hts⟩ (c_wants l D cI cL cB cZ cT _ ) (va_cwS 1 hts gX7_doNextAct_X7_wantsHalfOfStore rfl rfl rfl (by decide +kernel) ⟨Nat.le_of_ble_eq_true rfl, Nat.le_of_ble_eq_true rfl⟩) (kPreS hG hP hD [] rfl (by decide)) rfl rfl hl.1 rfl (lv_room (Nat.le_of_ble_eq_true rfl)) dX7_doNextAct_41 ⟨Nat.le_of_ble_eq_true rfl, Nat.le_of_ble_eq_true rfl⟩) hA hP hD hS [] [0, 1, 2, 3, 4] rfl rfl (by decide) (by decide) (fun r_6 u_r_6 H locs wr_6 hP hD hS => ?_)
  have hP : va_P D vwCl [(aU, .inr (6, [.ref bT, .ref aD, .int 0, .int 0])), (bT, .inl (cT, 4, .inr (.inr (.inr (.inr g))))), (aS, .inr (3, [.ref bS])), (bS, .inl (cI, 512, .inl (fun _ => 0))), (h0, .inr (7, [.ref aS, .ref aA, .ref aU, .ref aX, .ref aW, .int 0, .int u_r_5, .int 0, .int 0, .int 0, .long 0]))] H := hP
  have hD : va_D A [(aU, .inr (6, [.ref bT, .ref aD, .int 0, .int 0])), (bT, .inl (cT, 4, .inr (.inr (.inr (.inr g))))), (aS, .inr (3, [.ref bS])), (bS, .inl (cI, 512, .inl (fun _ => 0))), (h0, .inr (7, [.ref aS, .ref aA, .ref aU, .ref aX, .ref aW, .int 0, .int u_r_5, .int 0, .int 0, .int 0, .long 0]))] := hD
  try dsimp only at wr_6
  subst wr_6
  refine lv_if_eq (tgt := 58) hx hb dX7_doNextAct_44 (by decide) (fun c_44_6 => ?_) (fun c_44_6 => ?_)
  · exact absurd c_44_6 (by decide)
  · have t_44_6 := c_44_6
    try simp only [kb_eq0, kb_ne0, lg_cmp_lt, lg_cmp_le, lg_cmp_gt, lg_cmp_ge, lg_cmp_eq] at t_44_6
    try simp only [Int32.lt_iff_toInt_lt, Int32.le_iff_toInt_le, ← Int32.toInt_inj, Int64.lt_iff_toInt_lt, Int64.le_iff_toInt_le, ← Int64.toInt_inj, Int32.toInt_toInt64, Int32.reduceToInt, Int64.reduceToInt] at t_44_6
    refine lv_iload_n hx hb dX7_doNextAct_47 rfl (lv_at hl 0 rfl) ?_
    refine lv_sipush (v := 511) hx hb dX7_doNextAct_48 (by decide) ?_
    refine lv_icmp_le (tgt := 58) hx hb dX7_doNextAct_51 (by decide) (fun c_51_7 => ?_) (fun c_51_7 => ?_)
    · have t_51_7 := c_51_7
      try simp only [kb_eq0, kb_ne0, lg_cmp_lt, lg_cmp_le, lg_cmp_gt, lg_cmp_ge, lg_cmp_eq] at t_51_7
      try simp only [Int32.lt_iff_toInt_lt, Int32.le_iff_toInt_le, ← Int32.toInt_inj, Int64.lt_iff_toInt_lt, Int64.le_iff_toInt_le, ← Int64.toInt_inj, Int32.toInt_toInt64, Int32.reduceToInt, Int64.reduceToInt] at t_51_7
      refine lv_aload_n hx hb dX7_doNextAct_58 rfl (lv_at hl 3 rfl) ?_
      refine lv_iload_n hx hb dX7_doNextAct_59 rfl (lv_at hl 1 rfl) ?_
      refine lv_iload_n hx hb dX7_doNextAct_60 rfl (lv_at hl 2 rfl) ?_
      refine lv_bipush (v := 17) hx hb dX7_doNextAct_61 (by decide) ?_
      refine lv_ishr hx hb dX7_doNextAct_63 ?_
      refine lv_topi (fun x_9 ex_9 => ?_)
      obtain rfl : x_9 = 0 := ex_9.trans (by decide)
      refine lv_if_eq (tgt := 71) hx hb dX7_doNextAct_64 (by decide) (fun c_64_9 => ?_) (fun c_64_9 => ?_)
      · have t_64_9 := c_64_9
        try simp only [kb_eq0, kb_ne0, lg_cmp_lt, lg_cmp_le, lg_cmp_gt, lg_cmp_ge, lg_cmp_eq] at t_64_9
        try simp only [Int32.lt_iff_toInt_lt, Int32.le_iff_toInt_le, ← Int32.toInt_inj, Int64.lt_iff_toInt_lt, Int64.le_iff_toInt_le, ← Int64.toInt_inj, Int32.toInt_toInt64, Int32.reduceToInt, Int64.reduceToInt] at t_64_9
        refine lv_iconst (v := 0) hx hb dX7_doNextAct_71 (by decide) ?_
        refine lv_iload_n hx hb dX7_doNextAct_72 rfl (lv_at hl 0 rfl) ?_
        refine kCallI (wr := [(aU, .inr (6, [.ref bT, .ref aD, .int 0, .int 0])), (bT, .inl (cT, 4, .inr (.inr (.inr (.inr g))))), (aS, .inr (3, [.ref bS])), (bS, .inl (cI, 512, .inl (fun _ => 0)))]) (va_runV (As := [.int 0, .int 0, .int 0]) (rest := [.ref h0]) ⟨hx, hb, hml, hown, hts⟩ (c_perform l D cI cL cB cZ cT _ h0 aS aA aU aX aW 0 u_r_5 0 0 0 0) (cwV 3 hts gX7_doNextAct_X7_perform rfl rfl rfl (by decide +kernel) ⟨Nat.le_of_ble_eq_true rfl, Nat.le_of_ble_eq_true rfl⟩) (kPreV hG hP hD [4] rfl (by decide) 0 7 rfl rfl rfl) rfl rfl hl.1 rfl (lv_room (Nat.le_of_ble_eq_true rfl)) dX7_doNextAct_73 ⟨Nat.le_of_ble_eq_true rfl, Nat.le_of_ble_eq_true rfl⟩) hA hP hD hS [4] [0, 1, 2, 3] rfl rfl (by decide) (by decide) (fun r_11 u_r_11 H locs wr_11 hP hD hS => ?_)
        have hP : va_P D vwCl [(aU, .inr (6, [.ref bT, .ref aD, .int 0, .int 0])), (bT, .inl (cT, 4, .inr (.inr (.inr (.inr g))))), (aS, .inr (3, [.ref bS])), (bS, .inl (cI, 512, .inl (fun _ => 0))), (h0, .inr (7, [.ref aS, .ref aA, .ref aU, .ref aX, .ref aW, .int 0, .int u_r_11, .int 0, .int 0, .int 0, .long 0]))] H := hP
        have hD : va_D A [(aU, .inr (6, [.ref bT, .ref aD, .int 0, .int 0])), (bT, .inl (cT, 4, .inr (.inr (.inr (.inr g))))), (aS, .inr (3, [.ref bS])), (bS, .inl (cI, 512, .inl (fun _ => 0))), (h0, .inr (7, [.ref aS, .ref aA, .ref aU, .ref aX, .ref aW, .int 0, .int u_r_11, .int 0, .int 0, .int 0, .long 0]))] := hD
        try dsimp only at wr_11
        subst wr_11
        refine va_put (D := D) (ci := 7) (v := .int 1) (ty := .int) (C := RX7) (T := TX7) (N := 11) hx hb hts iX7_doNextAct_X7 tyX7 tyX7_ok nmX7 hown hK hP hD hS 4 rfl rfl 9 (by decide) (hts (.fieldLink RX7 94 "TapeCalculator" "latestStop" "I") (List.mem_of_getElem? (i := 4) rfl)) (fun _ h9 => h9) rfl (by decide +kernel) rfl rfl (Nat.le_of_ble_eq_true rfl) dX7_doNextAct_76 (fun H locs hP hD hS => ?_)
        have hP : va_P D vwCl [(aU, .inr (6, [.ref bT, .ref aD, .int 0, .int 0])), (bT, .inl (cT, 4, .inr (.inr (.inr (.inr g))))), (aS, .inr (3, [.ref bS])), (bS, .inl (cI, 512, .inl (fun _ => 0))), (h0, .inr (7, [.ref aS, .ref aA, .ref aU, .ref aX, .ref aW, .int 0, .int u_r_11, .int 0, .int 0, .int 1, .long 0]))] H := hP
        have hD : va_D A [(aU, .inr (6, [.ref bT, .ref aD, .int 0, .int 0])), (bT, .inl (cT, 4, .inr (.inr (.inr (.inr g))))), (aS, .inr (3, [.ref bS])), (bS, .inl (cI, 512, .inl (fun _ => 0))), (h0, .inr (7, [.ref aS, .ref aA, .ref aU, .ref aX, .ref aW, .int 0, .int u_r_11, .int 0, .int 0, .int 1, .long 0]))] := hD
        refine lv_aload_n hx hb dX7_doNextAct_79 rfl (lv_at hl 3 rfl) ?_
        refine va_get (D := D) (ci := 7) (v := .int 1) (C := RX7) (T := TX7) (N := 11) hx hb hts iX7_doNextAct_X7 hown hK hP 4 rfl rfl 9 (by decide) (hts (.fieldLink RX7 94 "TapeCalculator" "latestStop" "I") (List.mem_of_getElem? (i := 4) rfl)) (fun _ h9 => h9) rfl dX7_doNextAct_80 ?_
        refine lv_if_eq (tgt := 93) hx hb dX7_doNextAct_83 (by decide) (fun c_83_11 => ?_) (fun c_83_11 => ?_)
        · exact absurd c_83_11 (by decide)
        · have t_83_11 := c_83_11
          try simp only [kb_eq0, kb_ne0, lg_cmp_lt, lg_cmp_le, lg_cmp_gt, lg_cmp_ge, lg_cmp_eq] at t_83_11
          try simp only [Int32.lt_iff_toInt_lt, Int32.le_iff_toInt_le, ← Int32.toInt_inj, Int64.lt_iff_toInt_lt, Int64.le_iff_toInt_le, ← Int64.toInt_inj, Int32.toInt_toInt64, Int32.reduceToInt, Int64.reduceToInt] at t_83_11
          refine lv_aload_n hx hb dX7_doNextAct_86 rfl (lv_at hl 3 rfl) ?_
          refine va_get (D := D) (ci := 7) (v := .ref aU) (C := RX7) (T := TX7) (N := 11) hx hb hts iX7_doNextAct_X7 hown hK hP 4 rfl rfl 2 (by decide) (hts (.fieldLink RX7 26 "TapeCalculator" "units" "LTapeCalculator$Units;") (List.mem_of_getElem? (i := 5) rfl)) (fun _ h9 => h9) rfl dX7_doNextAct_87 ?_
          refine kCallVd (wr := [(aS, .inr (3, [.ref bS])), (bS, .inl (cI, 512, .inl (fun _ => 0))), (h0, .inr (7, [.ref aS, .ref aA, .ref aU, .ref aX, .ref aW, .int 0, .int u_r_11, .int 0, .int 0, .int 1, .long 0]))]) (va_runV (As := []) (rest := []) ⟨hx, hb, hml, hown, hts⟩ (c_endByStop l D cI cL cB cZ cT _ aU bT aD g) (cwV 0 hts gX7_doNextAct_X6_endByStop rfl rfl rfl (by decide +kernel) ⟨Nat.le_of_ble_eq_true rfl, Nat.le_of_ble_eq_true rfl⟩) (kPreV hG hP hD [0, 1] rfl (by decide) 0 6 rfl rfl rfl) rfl rfl hl.1 rfl (lv_room (Nat.le_of_ble_eq_true rfl)) dX7_doNextAct_90 ⟨Nat.le_of_ble_eq_true rfl, Nat.le_of_ble_eq_true rfl⟩) hA hP hD hS [0, 1] [2, 3, 4] rfl rfl (by decide) (by decide) (fun _ u_r_13 H locs wr_13 hP hD hS => ?_)
          have hP : va_P D vwCl [(aS, .inr (3, [.ref bS])), (bS, .inl (cI, 512, .inl (fun _ => 0))), (h0, .inr (7, [.ref aS, .ref aA, .ref aU, .ref aX, .ref aW, .int 0, .int u_r_11, .int 0, .int 0, .int 1, .long 0])), (aU, .inr (6, [.ref bT, .ref aD, .int 0, .int 0])), (bT, .inl (cT, 4, .inr (.inr (.inr (.inr g)))))] H := hP
          have hD : va_D A [(aS, .inr (3, [.ref bS])), (bS, .inl (cI, 512, .inl (fun _ => 0))), (h0, .inr (7, [.ref aS, .ref aA, .ref aU, .ref aX, .ref aW, .int 0, .int u_r_11, .int 0, .int 0, .int 1, .long 0])), (aU, .inr (6, [.ref bT, .ref aD, .int 0, .int 0])), (bT, .inl (cT, 4, .inr (.inr (.inr (.inr g)))))] := hD
          try dsimp only at wr_13
          refine lv_aload_n hx hb dX7_doNextAct_93 rfl (lv_at hl 3 rfl) ?_
          refine va_get (D := D) (ci := 7) (v := .int 1) (C := RX7) (T := TX7) (N := 11) hx hb hts iX7_doNextAct_X7 hown hK hP 2 rfl rfl 9 (by decide) (hts (.fieldLink RX7 94 "TapeCalculator" "latestStop" "I") (List.mem_of_getElem? (i := 4) rfl)) (fun _ h9 => h9) rfl dX7_doNextAct_94 ?_
          refine lv_if_eq (tgt := 108) hx hb dX7_doNextAct_97 (by decide) (fun c_97_13 => ?_) (fun c_97_13 => ?_)
          · exact absurd c_97_13 (by decide)
          · have t_97_13 := c_97_13
            try simp only [kb_eq0, kb_ne0, lg_cmp_lt, lg_cmp_le, lg_cmp_gt, lg_cmp_ge, lg_cmp_eq] at t_97_13
            try simp only [Int32.lt_iff_toInt_lt, Int32.le_iff_toInt_le, ← Int32.toInt_inj, Int64.lt_iff_toInt_lt, Int64.le_iff_toInt_le, ← Int64.toInt_inj, Int32.toInt_toInt64, Int32.reduceToInt, Int64.reduceToInt] at t_97_13
            refine lv_aload_n hx hb dX7_doNextAct_100 rfl (lv_at hl 3 rfl) ?_
            refine va_get (D := D) (ci := 7) (v := .int 1) (C := RX7) (T := TX7) (N := 11) hx hb hts iX7_doNextAct_X7 hown hK hP 2 rfl rfl 9 (by decide) (hts (.fieldLink RX7 94 "TapeCalculator" "latestStop" "I") (List.mem_of_getElem? (i := 4) rfl)) (fun _ h9 => h9) rfl dX7_doNextAct_101 ?_
            refine lv_iconst (v := 1) hx hb dX7_doNextAct_104 (by decide) ?_
            refine lv_icmp_ne (tgt := 116) hx hb dX7_doNextAct_105 (by decide) (fun c_105_14 => ?_) (fun c_105_14 => ?_)
            · exact absurd (by decide) c_105_14
            · have t_105_14 := c_105_14
              try simp only [kb_eq0, kb_ne0, lg_cmp_lt, lg_cmp_le, lg_cmp_gt, lg_cmp_ge, lg_cmp_eq] at t_105_14
              try simp only [Int32.lt_iff_toInt_lt, Int32.le_iff_toInt_le, ← Int32.toInt_inj, Int64.lt_iff_toInt_lt, Int64.le_iff_toInt_le, ← Int64.toInt_inj, Int32.toInt_toInt64, Int32.reduceToInt, Int64.reduceToInt] at t_105_14
              refine lv_aload_n hx hb dX7_doNextAct_108 rfl (lv_at hl 3 rfl) ?_
              refine lv_aload_n hx hb dX7_doNextAct_109 rfl (lv_at hl 3 rfl) ?_
              refine va_get (D := D) (ci := 7) (v := .int u_r_11) (C := RX7) (T := TX7) (N := 11) hx hb hts iX7_doNextAct_X7 hown hK hP 2 rfl rfl 6 (by decide) (hts (.fieldLink RX7 178 "TapeCalculator" "nextPlace" "I") (List.mem_of_getElem? (i := 3) rfl)) (fun _ h9 => h9) rfl dX7_doNextAct_110 ?_
              refine va_put (D := D) (ci := 7) (v := .int u_r_11) (ty := .int) (C := RX7) (T := TX7) (N := 11) hx hb hts iX7_doNextAct_X7 tyX7 tyX7_ok nmX7 hown hK hP hD hS 2 rfl rfl 5 (by decide) (hts (.fieldLink RX7 81 "TapeCalculator" "place" "I") (List.mem_of_getElem? (i := 2) rfl)) (fun _ h9 => h9) rfl (by decide +kernel) rfl rfl (Nat.le_of_ble_eq_true rfl) dX7_doNextAct_113 (fun H locs hP hD hS => ?_)
              have hP : va_P D vwCl [(aS, .inr (3, [.ref bS])), (bS, .inl (cI, 512, .inl (fun _ => 0))), (h0, .inr (7, [.ref aS, .ref aA, .ref aU, .ref aX, .ref aW, .int u_r_11, .int u_r_11, .int 0, .int 0, .int 1, .long 0])), (aU, .inr (6, [.ref bT, .ref aD, .int 0, .int 0])), (bT, .inl (cT, 4, .inr (.inr (.inr (.inr g)))))] H := hP
              have hD : va_D A [(aS, .inr (3, [.ref bS])), (bS, .inl (cI, 512, .inl (fun _ => 0))), (h0, .inr (7, [.ref aS, .ref aA, .ref aU, .ref aX, .ref aW, .int u_r_11, .int u_r_11, .int 0, .int 0, .int 1, .long 0])), (aU, .inr (6, [.ref bT, .ref aD, .int 0, .int 0])), (bT, .inl (cT, 4, .inr (.inr (.inr (.inr g)))))] := hD
              refine lv_aload_n hx hb dX7_doNextAct_116 rfl (lv_at hl 3 rfl) ?_
              refine lv_dup hx hb dX7_doNextAct_117 rfl ?_
              refine va_get (D := D) (ci := 7) (v := .long 0) (C := RX7) (T := TX7) (N := 11) hx hb hts iX7_doNextAct_X7 hown hK hP 2 rfl rfl 10 (by decide) (hts (.fieldLink RX7 112 "TapeCalculator" "actsDone" "J") (List.mem_of_getElem? (i := 6) rfl)) (fun _ h9 => h9) rfl dX7_doNextAct_118 ?_
              refine lv_lconst (v := 1) hx hb dX7_doNextAct_121 (by decide) ?_
              refine lv_ladd hx hb dX7_doNextAct_122 ?_
              refine lv_topl (fun x_16 ex_16 => ?_)
              obtain rfl : x_16 = 1 := ex_16.trans (by decide)
              refine va_put (D := D) (ci := 7) (v := .long 1) (ty := .long) (C := RX7) (T := TX7) (N := 11) hx hb hts iX7_doNextAct_X7 tyX7 tyX7_ok nmX7 hown hK hP hD hS 2 rfl rfl 10 (by decide) (hts (.fieldLink RX7 112 "TapeCalculator" "actsDone" "J") (List.mem_of_getElem? (i := 6) rfl)) (fun _ h9 => h9) rfl (by decide +kernel) rfl rfl (Nat.le_of_ble_eq_true rfl) dX7_doNextAct_123 (fun H locs hP hD hS => ?_)
              have hP : va_P D vwCl [(aS, .inr (3, [.ref bS])), (bS, .inl (cI, 512, .inl (fun _ => 0))), (h0, .inr (7, [.ref aS, .ref aA, .ref aU, .ref aX, .ref aW, .int u_r_11, .int u_r_11, .int 0, .int 0, .int 1, .long 1])), (aU, .inr (6, [.ref bT, .ref aD, .int 0, .int 0])), (bT, .inl (cT, 4, .inr (.inr (.inr (.inr g)))))] H := hP
              have hD : va_D A [(aS, .inr (3, [.ref bS])), (bS, .inl (cI, 512, .inl (fun _ => 0))), (h0, .inr (7, [.ref aS, .ref aA, .ref aU, .ref aX, .ref aW, .int u_r_11, .int u_r_11, .int 0, .int 0, .int 1, .long 1])), (aU, .inr (6, [.ref bT, .ref aD, .int 0, .int 0])), (bT, .inl (cT, 4, .inr (.inr (.inr (.inr g)))))] := hD
              refine kVret (u := (u_r_11, u_r_11, 1)) hx hb hr hlocks hS dX7_doNextAct_126 ?_ (hP.sub [2, 0, 1, 3, 4] rfl) (hD.sub [2, 0, 1, 3, 4] (by decide) rfl)
              exact trivial
      · exact absurd (by decide) c_64_9
    · exact absurd (by decide) c_51_7
set_option maxRecDepth 100000 in
theorem iX7_run_X7 : ∀ w ∈ wsX70, w ∈ wsX7_run := fun w h => (goodIn_r (big := wsX7_run) wsX70 [251, 252, 253, 254, 255, 256, 257, 258, 259, 260, 261] rfl (by decide +kernel) w h).1
set_option maxRecDepth 100000 in
set_option maxHeartbeats 4000000 in
theorem c_run (l : Launch) (D : va_G) (cI cL cB cZ cT : ClassId) (sz : Nat) (h0 aS aA aU aX aW : Nat) (bS bT aD : Nat) (g : Nat → Option Nat) (n : Int32) : kM (S := (Int32 × Int32 × Int32 × Int64)) l yX7_run wsX7_run ({ frames := 5, cells := 0, slots := 0, locals := 106 }) D (kT cI cL cB cZ cT) [.ref h0, .int n] [(h0, .inr (7, [.ref aS, .ref aA, .ref aU, .ref aX, .ref aW, .int 0, .int 0, .int 0, .int 0, .int 0, .long 0])), (aS, .inr (3, [.ref bS])), (bS, .inl (cI, 512, .inl (fun _ => 0))), (aU, .inr (6, [.ref bT, .ref aD, .int 0, .int 0])), (bT, .inl (cT, 4, .inr (.inr (.inr (.inr g)))))] sz eI (fun r _ => r = (kif (0 ≤ n.toInt ∧ n.toInt ≤ 20000) (kif (n.toInt = 0) 0 1) (-1))) (fun u => [(h0, .inr (7, [.ref aS, .ref aA, .ref aU, .ref aX, .ref aW, .int u.1, .int u.2.1, .int 0, .int 0, .int u.2.2.1, .long u.2.2.2])), (aS, .inr (3, [.ref bS])), (bS, .inl (cI, 512, .inl (fun _ => 0))), (aU, .inr (6, [.ref bT, .ref aD, .int 0, .int 0])), (bT, .inl (cT, 4, .inr (.inr (.inr (.inr g)))))]) 0 0 := by
  refine kStart (cc := cX7_run) (maxL := 3) (ret := (some .int)) (own := RX7) (by decide) rfl rfl (Nat.le_of_ble_eq_true rfl) ?_
  intro p e s m args below meth c A ls hx hb hr hml hown hts hlocks hnm hsz hA hG hP hD hS hl
  have hK := hG.1
  have hl : lv_has ls 3 [(0, .ref h0), (1, .int n)] := hl
  refine lv_iload_n hx hb dX7_run_0 rfl (lv_at hl 1 rfl) ?_
  refine lv_if_lt (tgt := 11) hx hb dX7_run_1 (by decide) (fun c_1_0 => ?_) (fun c_1_0 => ?_)
  · have t_1_0 := c_1_0
    try simp only [kb_eq0, kb_ne0, lg_cmp_lt, lg_cmp_le, lg_cmp_gt, lg_cmp_ge, lg_cmp_eq] at t_1_0
    try simp only [Int32.lt_iff_toInt_lt, Int32.le_iff_toInt_le, ← Int32.toInt_inj, Int64.lt_iff_toInt_lt, Int64.le_iff_toInt_le, ← Int64.toInt_inj, Int32.toInt_toInt64, Int32.reduceToInt, Int64.reduceToInt] at t_1_0
    refine lv_iconst (v := (-1)) hx hb dX7_run_11 (by decide) ?_
    refine kIret (u := (0, 0, 0, 0)) hx hb hr rfl hlocks hS dX7_run_12 ?_ (hP.sub [0, 1, 2, 3, 4] rfl) (hD.sub [0, 1, 2, 3, 4] (by decide) rfl)
    first
      | exact (kif_f (by omega)).symm
      | exact ((kif_t (by omega)).trans (kif_t (by omega))).symm
      | exact ((kif_t (by omega)).trans (kif_f (by omega))).symm
  · have t_1_0 := c_1_0
    try simp only [kb_eq0, kb_ne0, lg_cmp_lt, lg_cmp_le, lg_cmp_gt, lg_cmp_ge, lg_cmp_eq] at t_1_0
    try simp only [Int32.lt_iff_toInt_lt, Int32.le_iff_toInt_le, ← Int32.toInt_inj, Int64.lt_iff_toInt_lt, Int64.le_iff_toInt_le, ← Int64.toInt_inj, Int32.toInt_toInt64, Int32.reduceToInt, Int64.reduceToInt] at t_1_0
    refine lv_iload_n hx hb dX7_run_4 rfl (lv_at hl 1 rfl) ?_
    refine lv_sipush (v := 20000) hx hb dX7_run_5 (by decide) ?_
    refine lv_icmp_le (tgt := 13) hx hb dX7_run_8 (by decide) (fun c_8_1 => ?_) (fun c_8_1 => ?_)
    · have t_8_1 := c_8_1
      try simp only [kb_eq0, kb_ne0, lg_cmp_lt, lg_cmp_le, lg_cmp_gt, lg_cmp_ge, lg_cmp_eq] at t_8_1
      try simp only [Int32.lt_iff_toInt_lt, Int32.le_iff_toInt_le, ← Int32.toInt_inj, Int64.lt_iff_toInt_lt, Int64.le_iff_toInt_le, ← Int64.toInt_inj, Int32.toInt_toInt64, Int32.reduceToInt, Int64.reduceToInt] at t_8_1
      refine lv_aload_n hx hb dX7_run_13 rfl (lv_at hl 0 rfl) ?_
      refine lv_iconst (v := 0) hx hb dX7_run_14 (by decide) ?_
      refine va_put (D := D) (ci := 7) (v := .int 0) (ty := .int) (C := RX7) (T := TX7) (N := 11) hx hb hts iX7_run_X7 tyX7 tyX7_ok nmX7 hown hK hP hD hS 0 rfl rfl 9 (by decide) (hts (.fieldLink RX7 94 "TapeCalculator" "latestStop" "I") (List.mem_of_getElem? (i := 1) rfl)) (fun _ h9 => h9) rfl (by decide +kernel) rfl rfl (Nat.le_of_ble_eq_true rfl) dX7_run_15 (fun H locs hP hD hS => ?_)
      have hP : va_P D vwCl [(h0, .inr (7, [.ref aS, .ref aA, .ref aU, .ref aX, .ref aW, .int 0, .int 0, .int 0, .int 0, .int 0, .long 0])), (aS, .inr (3, [.ref bS])), (bS, .inl (cI, 512, .inl (fun _ => 0))), (aU, .inr (6, [.ref bT, .ref aD, .int 0, .int 0])), (bT, .inl (cT, 4, .inr (.inr (.inr (.inr g)))))] H := hP
      have hD : va_D A [(h0, .inr (7, [.ref aS, .ref aA, .ref aU, .ref aX, .ref aW, .int 0, .int 0, .int 0, .int 0, .int 0, .long 0])), (aS, .inr (3, [.ref bS])), (bS, .inl (cI, 512, .inl (fun _ => 0))), (aU, .inr (6, [.ref bT, .ref aD, .int 0, .int 0])), (bT, .inl (cT, 4, .inr (.inr (.inr (.inr g)))))] := hD
      refine lv_iconst (v := 0) hx hb dX7_run_18 (by decide) ?_
      refine lv_istore_n (lv' := [(2, .int 0), (0, .ref h0), (1, .int n)]) hx hb dX7_run_19 rfl hl (by decide) rfl (fun ls hl => ?_)
      refine lv_iload_n hx hb dX7_run_20 rfl (lv_at hl 0 rfl) ?_
      refine lv_iload_n hx hb dX7_run_21 rfl (lv_at hl 2 rfl) ?_
      refine lv_icmp_ge (tgt := 42) hx hb dX7_run_22 (by decide) (fun c_22_2 => ?_) (fun c_22_2 => ?_)
      · have t_22_2 := c_22_2
        try simp only [kb_eq0, kb_ne0, lg_cmp_lt, lg_cmp_le, lg_cmp_gt, lg_cmp_ge, lg_cmp_eq] at t_22_2
        try simp only [Int32.lt_iff_toInt_lt, Int32.le_iff_toInt_le, ← Int32.toInt_inj, Int64.lt_iff_toInt_lt, Int64.le_iff_toInt_le, ← Int64.toInt_inj, Int32.toInt_toInt64, Int32.reduceToInt, Int64.reduceToInt] at t_22_2
        refine lv_iload_n hx hb dX7_run_42 rfl (lv_at hl 0 rfl) ?_
        refine kIret (u := (0, 0, 0, 0)) hx hb hr rfl hlocks hS dX7_run_43 ?_ (hP.sub [0, 1, 2, 3, 4] rfl) (hD.sub [0, 1, 2, 3, 4] (by decide) rfl)
        first
          | exact (kif_f (by omega)).symm
          | exact ((kif_t (by omega)).trans (kif_t (by omega))).symm
          | exact ((kif_t (by omega)).trans (kif_f (by omega))).symm
      · have t_22_2 := c_22_2
        try simp only [kb_eq0, kb_ne0, lg_cmp_lt, lg_cmp_le, lg_cmp_gt, lg_cmp_ge, lg_cmp_eq] at t_22_2
        try simp only [Int32.lt_iff_toInt_lt, Int32.le_iff_toInt_le, ← Int32.toInt_inj, Int64.lt_iff_toInt_lt, Int64.le_iff_toInt_le, ← Int64.toInt_inj, Int32.toInt_toInt64, Int32.reduceToInt, Int64.reduceToInt] at t_22_2
        refine lv_aload_n hx hb dX7_run_25 rfl (lv_at hl 1 rfl) ?_
        refine va_get (D := D) (ci := 7) (v := .int 0) (C := RX7) (T := TX7) (N := 11) hx hb hts iX7_run_X7 hown hK hP 0 rfl rfl 9 (by decide) (hts (.fieldLink RX7 94 "TapeCalculator" "latestStop" "I") (List.mem_of_getElem? (i := 1) rfl)) (fun _ h9 => h9) rfl dX7_run_26 ?_
        refine lv_if_ne (tgt := 42) hx hb dX7_run_29 (by decide) (fun c_29_3 => ?_) (fun c_29_3 => ?_)
        · exact absurd (by decide) c_29_3
        · have t_29_3 := c_29_3
          try simp only [kb_eq0, kb_ne0, lg_cmp_lt, lg_cmp_le, lg_cmp_gt, lg_cmp_ge, lg_cmp_eq] at t_29_3
          try simp only [Int32.lt_iff_toInt_lt, Int32.le_iff_toInt_le, ← Int32.toInt_inj, Int64.lt_iff_toInt_lt, Int64.le_iff_toInt_le, ← Int64.toInt_inj, Int32.toInt_toInt64, Int32.reduceToInt, Int64.reduceToInt] at t_29_3
          refine lv_aload_n hx hb dX7_run_32 rfl (lv_at hl 1 rfl) ?_
          refine kCallVd (wr := []) (va_runV (As := []) (rest := []) ⟨hx, hb, hml, hown, hts⟩ (c_doNextAct l D cI cL cB cZ cT _ h0 aS aA aU aX aW bS bT aD g) (cwV 0 hts gX7_run_X7_doNextAct rfl rfl rfl (by decide +kernel) ⟨Nat.le_of_ble_eq_true rfl, Nat.le_of_ble_eq_true rfl⟩) (kPreV hG hP hD [0, 1, 2, 3, 4] rfl (by decide) 0 7 rfl rfl rfl) rfl rfl hl.1 rfl (lv_room (Nat.le_of_ble_eq_true rfl)) dX7_run_33 ⟨Nat.le_of_ble_eq_true rfl, Nat.le_of_ble_eq_true rfl⟩) hA hP hD hS [0, 1, 2, 3, 4] [] rfl rfl (by decide) (by decide) (fun _ u_r_5 H locs wr_5 hP hD hS => ?_)
          have hP : va_P D vwCl [(h0, .inr (7, [.ref aS, .ref aA, .ref aU, .ref aX, .ref aW, .int u_r_5.1, .int u_r_5.2.1, .int 0, .int 0, .int 1, .long u_r_5.2.2])), (aS, .inr (3, [.ref bS])), (bS, .inl (cI, 512, .inl (fun _ => 0))), (aU, .inr (6, [.ref bT, .ref aD, .int 0, .int 0])), (bT, .inl (cT, 4, .inr (.inr (.inr (.inr g)))))] H := hP
          have hD : va_D A [(h0, .inr (7, [.ref aS, .ref aA, .ref aU, .ref aX, .ref aW, .int u_r_5.1, .int u_r_5.2.1, .int 0, .int 0, .int 1, .long u_r_5.2.2])), (aS, .inr (3, [.ref bS])), (bS, .inl (cI, 512, .inl (fun _ => 0))), (aU, .inr (6, [.ref bT, .ref aD, .int 0, .int 0])), (bT, .inl (cT, 4, .inr (.inr (.inr (.inr g)))))] := hD
          try dsimp only at wr_5
          refine lv_iinc (v := 1) (lv' := [(2, .int 1), (0, .ref h0), (1, .int n)]) hx hb dX7_run_36 hl (k := 0) rfl (by decide) (by decide) rfl (fun ls hl => ?_)
          refine lv_goto (tgt := 20) hx hb dX7_run_39 (by decide) ?_
          refine lv_iload_n hx hb dX7_run_20 rfl (lv_at hl 0 rfl) ?_
          refine lv_iload_n hx hb dX7_run_21 rfl (lv_at hl 2 rfl) ?_
          refine lv_icmp_ge (tgt := 42) hx hb dX7_run_22 (by decide) (fun c_22_5 => ?_) (fun c_22_5 => ?_)
          · have t_22_5 := c_22_5
            try simp only [kb_eq0, kb_ne0, lg_cmp_lt, lg_cmp_le, lg_cmp_gt, lg_cmp_ge, lg_cmp_eq] at t_22_5
            try simp only [Int32.lt_iff_toInt_lt, Int32.le_iff_toInt_le, ← Int32.toInt_inj, Int64.lt_iff_toInt_lt, Int64.le_iff_toInt_le, ← Int64.toInt_inj, Int32.toInt_toInt64, Int32.reduceToInt, Int64.reduceToInt] at t_22_5
            refine lv_iload_n hx hb dX7_run_42 rfl (lv_at hl 0 rfl) ?_
            refine kIret (u := (u_r_5.1, u_r_5.2.1, 1, u_r_5.2.2)) hx hb hr rfl hlocks hS dX7_run_43 ?_ (hP.sub [0, 1, 2, 3, 4] rfl) (hD.sub [0, 1, 2, 3, 4] (by decide) rfl)
            first
              | exact (kif_f (by omega)).symm
              | exact ((kif_t (by omega)).trans (kif_t (by omega))).symm
              | exact ((kif_t (by omega)).trans (kif_f (by omega))).symm
          · have t_22_5 := c_22_5
            try simp only [kb_eq0, kb_ne0, lg_cmp_lt, lg_cmp_le, lg_cmp_gt, lg_cmp_ge, lg_cmp_eq] at t_22_5
            try simp only [Int32.lt_iff_toInt_lt, Int32.le_iff_toInt_le, ← Int32.toInt_inj, Int64.lt_iff_toInt_lt, Int64.le_iff_toInt_le, ← Int64.toInt_inj, Int32.toInt_toInt64, Int32.reduceToInt, Int64.reduceToInt] at t_22_5
            refine lv_aload_n hx hb dX7_run_25 rfl (lv_at hl 1 rfl) ?_
            refine va_get (D := D) (ci := 7) (v := .int 1) (C := RX7) (T := TX7) (N := 11) hx hb hts iX7_run_X7 hown hK hP 0 rfl rfl 9 (by decide) (hts (.fieldLink RX7 94 "TapeCalculator" "latestStop" "I") (List.mem_of_getElem? (i := 1) rfl)) (fun _ h9 => h9) rfl dX7_run_26 ?_
            refine lv_if_ne (tgt := 42) hx hb dX7_run_29 (by decide) (fun c_29_6 => ?_) (fun c_29_6 => ?_)
            · have t_29_6 := c_29_6
              try simp only [kb_eq0, kb_ne0, lg_cmp_lt, lg_cmp_le, lg_cmp_gt, lg_cmp_ge, lg_cmp_eq] at t_29_6
              try simp only [Int32.lt_iff_toInt_lt, Int32.le_iff_toInt_le, ← Int32.toInt_inj, Int64.lt_iff_toInt_lt, Int64.le_iff_toInt_le, ← Int64.toInt_inj, Int32.toInt_toInt64, Int32.reduceToInt, Int64.reduceToInt] at t_29_6
              refine lv_iload_n hx hb dX7_run_42 rfl (lv_at hl 0 rfl) ?_
              refine kIret (u := (u_r_5.1, u_r_5.2.1, 1, u_r_5.2.2)) hx hb hr rfl hlocks hS dX7_run_43 ?_ (hP.sub [0, 1, 2, 3, 4] rfl) (hD.sub [0, 1, 2, 3, 4] (by decide) rfl)
              first
                | exact (kif_f (by omega)).symm
                | exact ((kif_t (by omega)).trans (kif_t (by omega))).symm
                | exact ((kif_t (by omega)).trans (kif_f (by omega))).symm
            · exact absurd c_29_6 (by decide)
    · have t_8_1 := c_8_1
      try simp only [kb_eq0, kb_ne0, lg_cmp_lt, lg_cmp_le, lg_cmp_gt, lg_cmp_ge, lg_cmp_eq] at t_8_1
      try simp only [Int32.lt_iff_toInt_lt, Int32.le_iff_toInt_le, ← Int32.toInt_inj, Int64.lt_iff_toInt_lt, Int64.le_iff_toInt_le, ← Int64.toInt_inj, Int32.toInt_toInt64, Int32.reduceToInt, Int64.reduceToInt] at t_8_1
      refine lv_iconst (v := (-1)) hx hb dX7_run_11 (by decide) ?_
      refine kIret (u := (0, 0, 0, 0)) hx hb hr rfl hlocks hS dX7_run_12 ?_ (hP.sub [0, 1, 2, 3, 4] rfl) (hD.sub [0, 1, 2, 3, 4] (by decide) rfl)
      first
        | exact (kif_f (by omega)).symm
        | exact ((kif_t (by omega)).trans (kif_t (by omega))).symm
        | exact ((kif_t (by omega)).trans (kif_f (by omega))).symm
set_option maxRecDepth 100000 in
theorem iX7_step_X7 : ∀ w ∈ wsX70, w ∈ wsX7_step := fun w h => (goodIn_r (big := wsX7_step) wsX70 [251, 252, 253, 254, 255, 256, 257, 258, 259, 260, 261] rfl (by decide +kernel) w h).1
set_option maxRecDepth 100000 in
set_option maxHeartbeats 4000000 in
theorem c_step (l : Launch) (D : va_G) (cI cL cB cZ cT : ClassId) (sz : Nat) (h0 aS aA aU aX aW : Nat) (bS bT aD : Nat) (g : Nat → Option Nat) : kM (S := (Int32 × Int32 × Int32 × Int64)) l yX7_step wsX7_step ({ frames := 5, cells := 0, slots := 0, locals := 106 }) D (kT cI cL cB cZ cT) [.ref h0] [(h0, .inr (7, [.ref aS, .ref aA, .ref aU, .ref aX, .ref aW, .int 0, .int 0, .int 0, .int 0, .int 0, .long 0])), (aS, .inr (3, [.ref bS])), (bS, .inl (cI, 512, .inl (fun _ => 0))), (aU, .inr (6, [.ref bT, .ref aD, .int 0, .int 0])), (bT, .inl (cT, 4, .inr (.inr (.inr (.inr g)))))] sz eI (fun r _ => r = 1) (fun u => [(h0, .inr (7, [.ref aS, .ref aA, .ref aU, .ref aX, .ref aW, .int u.1, .int u.2.1, .int 0, .int 0, .int u.2.2.1, .long u.2.2.2])), (aS, .inr (3, [.ref bS])), (bS, .inl (cI, 512, .inl (fun _ => 0))), (aU, .inr (6, [.ref bT, .ref aD, .int 0, .int 0])), (bT, .inl (cT, 4, .inr (.inr (.inr (.inr g)))))]) 0 0 := by
  refine kStart (cc := cX7_step) (maxL := 1) (ret := (some .int)) (own := RX7) (by decide) rfl rfl (Nat.le_of_ble_eq_true rfl) ?_
  intro p e s m args below meth c A ls hx hb hr hml hown hts hlocks hnm hsz hA hG hP hD hS hl
  have hK := hG.1
  have hl : lv_has ls 1 [(0, .ref h0)] := hl
  refine lv_aload_n hx hb dX7_step_0 rfl (lv_at hl 0 rfl) ?_
  refine kCallVd (wr := []) (va_runV (As := []) (rest := []) ⟨hx, hb, hml, hown, hts⟩ (c_doNextAct l D cI cL cB cZ cT _ h0 aS aA aU aX aW bS bT aD g) (cwV 0 hts gX7_step_X7_doNextAct rfl rfl rfl (by decide +kernel) ⟨Nat.le_of_ble_eq_true rfl, Nat.le_of_ble_eq_true rfl⟩) (kPreV hG hP hD [0, 1, 2, 3, 4] rfl (by decide) 0 7 rfl rfl rfl) rfl rfl hl.1 rfl (lv_room (Nat.le_of_ble_eq_true rfl)) dX7_step_1 ⟨Nat.le_of_ble_eq_true rfl, Nat.le_of_ble_eq_true rfl⟩) hA hP hD hS [0, 1, 2, 3, 4] [] rfl rfl (by decide) (by decide) (fun _ u_r_1 H locs wr_1 hP hD hS => ?_)
  have hP : va_P D vwCl [(h0, .inr (7, [.ref aS, .ref aA, .ref aU, .ref aX, .ref aW, .int u_r_1.1, .int u_r_1.2.1, .int 0, .int 0, .int 1, .long u_r_1.2.2])), (aS, .inr (3, [.ref bS])), (bS, .inl (cI, 512, .inl (fun _ => 0))), (aU, .inr (6, [.ref bT, .ref aD, .int 0, .int 0])), (bT, .inl (cT, 4, .inr (.inr (.inr (.inr g)))))] H := hP
  have hD : va_D A [(h0, .inr (7, [.ref aS, .ref aA, .ref aU, .ref aX, .ref aW, .int u_r_1.1, .int u_r_1.2.1, .int 0, .int 0, .int 1, .long u_r_1.2.2])), (aS, .inr (3, [.ref bS])), (bS, .inl (cI, 512, .inl (fun _ => 0))), (aU, .inr (6, [.ref bT, .ref aD, .int 0, .int 0])), (bT, .inl (cT, 4, .inr (.inr (.inr (.inr g)))))] := hD
  try dsimp only at wr_1
  refine lv_aload_n hx hb dX7_step_4 rfl (lv_at hl 0 rfl) ?_
  refine va_get (D := D) (ci := 7) (v := .int 1) (C := RX7) (T := TX7) (N := 11) hx hb hts iX7_step_X7 hown hK hP 0 rfl rfl 9 (by decide) (hts (.fieldLink RX7 94 "TapeCalculator" "latestStop" "I") (List.mem_of_getElem? (i := 1) rfl)) (fun _ h9 => h9) rfl dX7_step_5 ?_
  refine kIret (u := (u_r_1.1, u_r_1.2.1, 1, u_r_1.2.2)) hx hb hr rfl hlocks hS dX7_step_8 ?_ (hP.sub [0, 1, 2, 3, 4] rfl) (hD.sub [0, 1, 2, 3, 4] (by decide) rfl)
  exact rfl
